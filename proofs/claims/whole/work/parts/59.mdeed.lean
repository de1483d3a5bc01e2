abbrev m_X12_records (Q : hPo) : hMe := (hrm 1, 0, 0, yX12_records, cX12_records, 2, (none : Option FieldType), shp, none, Q)
abbrev m_X12_eat (Q : hPo) : hMe := (hrm 2, 0, 0, yX12_eat, cX12_eat, 3, (some FieldType.int), shp, none, Q)
abbrev m_X12_salts (Q : hPo) : hMe := (hrm 2, 0, 0, yX12_salts, cX12_salts, 3, (some FieldType.int), shp, none, Q)
abbrev m_X12_buy (Q : hPo) : hMe := (hrm 3, 0, 0, yX12_buy, cX12_buy, 7, (some FieldType.int), shp, none, Q)
/-- behind records: the row that was, behind those that can be undone -/
def pRec (nn : Nat) (σ σ' : hS) : Prop := σ' 64 57 = nI (min (nn + 1) 40) ∧ (∀ i j, i < min nn 39 → j < 37 → σ' 103 (37 * i + j) = σ 103 (37 * (i + (nn - min nn 39)) + j)) ∧ ∀ j, j < 37 → σ' 103 (37 * min nn 39 + j) = σ 98 j
def k57 (σ σ' : hS) : Prop := ∀ j, j ≠ 50 → j ≠ 53 → j ≠ 57 → σ' 64 j = σ 64 j
abbrev xDo : List Nat := [64, 96, 97, 98, 99, 100, 101, 102, 103]
/-- a thing done: what the row is now is said apart -/
def pDo (nn : Nat) (σ σ' : hS) : Prop := (∀ k, k ∉ xDo → σ' k = σ k) ∧ k57 σ σ' ∧ pRec nn σ σ'
theorem upd_37 {f g : hF} {k : Nat} {v w : Int32} (h : ∀ j, j < 37 → f j = g j) (hv : v = w) : ∀ j, j < 37 → upd f k v j = upd g k w j := by
  intro j hj
  unfold upd
  rw [hv, h j hj]
theorem pDo_of {L h nn : Nat} {LF : Nat → hF → Int32} {σ σ1 σ2 σ3 : hS} (q1 : ∀ k, k ∉ [64, 99] → σ1 k = σ k) (c : pCp L h LF σ σ1) (q2 : ∀ k, k ∉ xMd → σ2 k = σ1 k) (e2 : ∀ j, j ≠ 50 → σ2 64 j = σ1 64 j) (q3 : ∀ k, k ∉ [64, 98, 103] → σ3 k = σ2 k) (e3 : ∀ j, j ≠ 57 → σ3 64 j = σ2 64 j) (r : pRec nn σ2 σ3) : pDo nn σ σ3 := by
  have q12 : ∀ k, k ∉ xMd → σ2 k = σ k := off_tr q1 q2 (by decide) (by decide)
  refine ⟨off_tr q12 q3 (by decide) (by decide), fun j j1 j2 j3 => (e3 j j3).trans ((e2 j j1).trans (c.2.2.2.2.2.2.1 j j2)), ?_⟩
  unfold pRec at r ⊢
  rw [q12 103 (by decide), q12 98 (by decide)] at r
  exact r
section S59
variable {G : hGl} {σ : hS} {τ : hT} {x y : Option Nat}
theorem d_records {nn : Nat} (hn : σ 64 57 = nI nn) (hn40 : nn ≤ 40) : hCal G (m_X12_records (hQp [64, 98, 103] none (rr 38 51 x y) σ τ (fun σ' => (∀ j, j < 37 → σ' 98 j = σ 99 j) ∧ (∀ j, j ≠ 57 → σ' 64 j = σ 64 j) ∧ pRec nn σ σ'))) [.ref (hgA G 64)] shp (rr 38 51 x y) σ τ := by
  refine hv_enter pn_X12 rfl ?_
  have loop2 : ∀ Q (σa : hS) m, m < 40 → σa 64 57 = nI m → (∀ σ' : hS, (∀ c, c ∉ [103] → σ' c = σa c) → (∀ j, j < 37 → σ' 103 (37 * m + j) = σa 98 j) → (∀ j, j < 37 * m → σ' 103 j = σa 103 j) → hV G (m_X12_records Q) 0 0 shp 83 [some (.ref (hgA G 64)), some (.int (nI 37))] [] (rr 38 51 x y) σ' τ) → ∀ k i (σ' : hS), i + k = 37 → (∀ c, c ∉ [103] → σ' c = σa c) → (∀ j, j < i → σ' 103 (37 * m + j) = σa 98 j) → (∀ j, j < 37 * m → σ' 103 j = σa 103 j) → hV G (m_X12_records Q) 0 0 shp 51 [some (.ref (hgA G 64)), some (.int (nI i))] [] (rr 38 51 x y) σ' τ := by
    intro Q σa m hm h57 kk k
    induction k with
    | zero =>
      intro i σ' hi hσ h1 h2
      obtain rfl : i = 37 := by omega
      refine hv_iload_n dX12_records_51 rfl ?_
      refine hv_bipush (v := 37) dX12_records_52 (by decide) ?_
      refine hv_icmp_ge (tgt := 83) dX12_records_54 (by decide) (fun c_54 => ?_) (fun c_54 => absurd ((by decide)) c_54)
      exact kk σ' hσ h1 h2
    | succ k ih =>
      intro i σ' hi hσ h1 h2
      refine hv_iload_n dX12_records_51 rfl ?_
      refine hv_bipush (v := 37) dX12_records_52 (by decide) ?_
      refine hv_icmp_ge (tgt := 83) dX12_records_54 (by decide) (fun c_54 => absurd c_54 ((nI_ge (b := 37) (by omega) (by decide)))) (fun c_54 => ?_)
      refine hv_aload_n dX12_records_57 rfl ?_
      refine hv_getr dX12_records_58 fl_X12_134 (by first | rfl | assumption) rfl (by first | rfl | assumption) ?_
      refine hv_bipush (v := 37) dX12_records_61 (by decide) ?_
      refine hv_aload_n dX12_records_63 rfl ?_
      refine hv_geti dX12_records_64 fl_X12_251 (by first | rfl | assumption) rfl ?_
      refine hv_imul dX12_records_67 ?_
      refine hv_iload_n dX12_records_68 rfl ?_
      refine hv_iadd dX12_records_69 ?_
      refine hv_aload_n dX12_records_70 rfl ?_
      refine hv_getr dX12_records_71 fl_X12_119 (by first | rfl | assumption) rfl (by first | rfl | assumption) ?_
      refine hv_iload_n dX12_records_74 rfl ?_
      refine hv_iald dX12_records_75 (by first | rfl | assumption) rfl (by first | assumption | omega) (by first | decide | assumption) ?_
      refine hv_iast dX12_records_76 (by first | rfl | assumption) (j := 37 * m + i) (by rw [hσ 64 (by decide), h57, show (37 : Int32) * nI m = nI (37 * m) from pk_mul 37 m, nI_add]) (by omega) (by first | decide | assumption) ?_
      refine hv_iinc dX12_records_77 rfl (nI_1 i) rfl rfl ?_
      refine hv_goto (tgt := 51) dX12_records_80 (by decide) ?_
      refine ih (i + 1) _ (by omega) (off_up hσ (by decide)) (fun j hj => ?_) (fun j hj => ?_)
      · rw [hup_eq]
        by_cases e : j = i
        · subst e; rw [pk_us, hσ 98 (by decide)]
        · rw [pk_un (by omega)]; exact h1 j (by omega)
      · rw [hup_eq, pk_un (by omega)]; exact h2 j hj
  have tail : ∀ (σa σ' : hS) m, m < 40 → σa 64 57 = nI m → (∀ c, c ∉ [64, 103] → σa c = σ c) → (∀ j, j ≠ 57 → σa 64 j = σ 64 j) → m = min nn 39 → (∀ i j, i < m → j < 37 → σa 103 (37 * i + j) = σ 103 (37 * (i + (nn - m)) + j)) → (∀ c, c ∉ [103] → σ' c = σa c) → (∀ j, j < 37 → σ' 103 (37 * m + j) = σa 98 j) → (∀ j, j < 37 * m → σ' 103 j = σa 103 j) → hV G (m_X12_records (hQp [64, 98, 103] none (rr 38 51 x y) σ τ (fun σ' => (∀ j, j < 37 → σ' 98 j = σ 99 j) ∧ (∀ j, j ≠ 57 → σ' 64 j = σ 64 j) ∧ pRec nn σ σ'))) 0 0 shp 83 [some (.ref (hgA G 64)), some (.int (nI 37))] [] (rr 38 51 x y) σ' τ := by
    intro σa σ' m hm h57 hσa h64 hmn hsh hσ h1 h2
    refine hv_aload_n dX12_records_83 rfl ?_
    refine hv_dup dX12_records_84 rfl ?_
    refine hv_geti dX12_records_85 fl_X12_251 (by first | rfl | assumption) rfl ?_
    refine hv_iconst (v := 1) dX12_records_88 (by decide) ?_
    rw [hσ 64 (by decide), h57]
    refine hv_iadd dX12_records_89 ?_
    rw [nI_1]
    refine hv_puti dX12_records_90 fl_X12_251 (by first | rfl | assumption) rfl rfl rfl ?_
    refine hv_aload_n dX12_records_93 rfl ?_
    refine hv_cv0 (d_keepsRow) dX12_records_94 ml_X12_163 mk_X12_keepsRow (by first | rfl | assumption) rfl rfl rfl rfl rfl ?_
    rintro _ _ σ2 _ ⟨rfl, rfl, rfl, p1, p2⟩
    refine hv_vret dX12_records_97 rfl ?_
    have e0 : σ2 64 = upd (σa 64) 57 (nI (m + 1)) := by rw [p1 64 (by decide), hup_eq]; first | rw [hσ 64 (by decide)] | rfl
    have e103 : σ2 103 = σ' 103 := by rw [p1 103 (by decide), hva_ne (by decide)]
    refine ⟨rfl, rfl, rfl, fun k hk => ?_, fun j hj => ?_, fun j hj => ?_, ?_, fun i j hi hj => ?_, fun j hj => ?_⟩
    · simp only [List.mem_cons, List.not_mem_nil, or_false, not_or] at hk
      rw [p1 k (by simp [hk.2.1]), hva_ne hk.1, hσ k (by simp [hk.2.2]), hσa k (by simp [hk.1, hk.2.2])]
    · rw [p2 j hj, hva_ne (by decide), hσ 99 (by decide), hσa 99 (by decide)]
    · rw [e0, pk_un hj]; exact h64 j hj
    · rw [e0, pk_us, show m + 1 = min (nn + 1) 40 by omega]
    · rw [e103, h2 _ (by omega), hsh i j (by omega) hj, hmn]
    · rw [e103, ← hmn, h1 j hj, hσa 98 (by decide)]
  have loop1 : nn = 40 → ∀ k i (σ' : hS), i + k = 1443 → (∀ c, c ∉ [103] → σ' c = σ c) → (∀ j, j < i → σ' 103 j = σ 103 (j + 37)) → (∀ j, i ≤ j → σ' 103 j = σ 103 j) → hV G (m_X12_records (hQp [64, 98, 103] none (rr 38 51 x y) σ τ (fun σ' => (∀ j, j < 37 → σ' 98 j = σ 99 j) ∧ (∀ j, j ≠ 57 → σ' 64 j = σ 64 j) ∧ pRec nn σ σ'))) 0 0 shp 11 [some (.ref (hgA G 64)), some (.int (nI i))] [] (rr 38 51 x y) σ' τ := by
    intro hnn k
    subst hnn
    induction k with
    | zero =>
      intro i σ' hi hσ h1 h2
      obtain rfl : i = 1443 := by omega
      obtain ⟨σa, ha⟩ : ∃ σa : hS, va_up σ' 64 (upd (σ' 64) 57 (nI 39)) = σa := ⟨_, rfl⟩
      have a1 : ∀ c, c ∉ [64, 103] → σa c = σ c := fun c hc => by
        simp only [List.mem_cons, List.not_mem_nil, or_false, not_or] at hc
        rw [← ha, hva_ne hc.1]; exact hσ c (by simp [hc.2])
      have a2 : ∀ j, j ≠ 57 → σa 64 j = σ 64 j := fun j hj => by rw [← ha, hup_eq, pk_un hj, hσ 64 (by decide)]
      have a3 : σa 64 57 = nI 39 := by rw [← ha, hup_eq, pk_us]
      have a4 : ∀ i j, i < 39 → j < 37 → σa 103 (37 * i + j) = σ 103 (37 * (i + (40 - 39)) + j) := fun i j hi hj => by
        rw [← ha, hva_ne (by decide), h1 _ (by omega)]; congr 1; omega
      refine hv_iload_n dX12_records_11 rfl ?_
      refine hv_sipush (v := 1443) dX12_records_12 (by decide) ?_
      refine hv_icmp_ge (tgt := 39) dX12_records_15 (by decide) (fun c_15 => ?_) (fun c_15 => absurd ((by decide)) c_15)
      refine hv_aload_n dX12_records_39 rfl ?_
      refine hv_dup dX12_records_40 rfl ?_
      refine hv_geti dX12_records_41 fl_X12_251 (by first | rfl | assumption) rfl ?_
      rw [hσ 64 (by decide), hn]
      refine hv_iconst (v := 1) dX12_records_44 (by decide) ?_
      refine hv_isub dX12_records_45 ?_
      rw [show nI 40 - 1 = nI 39 from nI_pred 39]
      refine hv_puti dX12_records_46 fl_X12_251 (by first | rfl | assumption) rfl rfl rfl ?_
      refine hv_iconst (v := 0) dX12_records_49 (by decide) ?_
      refine hv_istore_n dX12_records_50 rfl rfl ?_
      rw [ha]
      exact loop2 _ σa 39 (by decide) a3 (fun σ2 b1 b2 b3 => tail σa σ2 39 (by decide) a3 a1 a2 rfl a4 b1 b2 b3) 37 0 σa (by omega) (fun _ _ => rfl) (fun j hj => absurd hj (by omega)) (fun _ _ => rfl)
    | succ k ih =>
      intro i σ' hi hσ h1 h2
      refine hv_iload_n dX12_records_11 rfl ?_
      refine hv_sipush (v := 1443) dX12_records_12 (by decide) ?_
      refine hv_icmp_ge (tgt := 39) dX12_records_15 (by decide) (fun c_15 => absurd c_15 ((nI_ge (b := 1443) (by omega) (by decide)))) (fun c_15 => ?_)
      refine hv_aload_n dX12_records_18 rfl ?_
      refine hv_getr dX12_records_19 fl_X12_134 (by first | rfl | assumption) rfl (by first | rfl | assumption) ?_
      refine hv_iload_n dX12_records_22 rfl ?_
      refine hv_aload_n dX12_records_23 rfl ?_
      refine hv_getr dX12_records_24 fl_X12_134 (by first | rfl | assumption) rfl (by first | rfl | assumption) ?_
      refine hv_iload_n dX12_records_27 rfl ?_
      refine hv_bipush (v := 37) dX12_records_28 (by decide) ?_
      refine hv_iadd dX12_records_30 ?_
      refine hv_iald dX12_records_31 (by first | rfl | assumption) (j := i + 37) (nI_add i 37) (by omega) (by first | decide | assumption) ?_
      refine hv_iast dX12_records_32 (by first | rfl | assumption) (j := i) rfl (by omega) (by first | decide | assumption) ?_
      refine hv_iinc dX12_records_33 rfl (nI_1 i) rfl rfl ?_
      refine hv_goto (tgt := 11) dX12_records_36 (by decide) ?_
      refine ih (i + 1) _ (by omega) (off_up hσ (by decide)) (fun j hj => ?_) (fun j hj => ?_)
      · rw [hup_eq]
        by_cases e : j = i
        · subst e; rw [pk_us, h2 _ (by omega)]
        · rw [pk_un e]; exact h1 j (by omega)
      · rw [hup_eq, pk_un (by omega)]; exact h2 j (by omega)
  by_cases h40 : nn = 40
  · skip
    refine hv_aload_n dX12_records_0 rfl ?_
    refine hv_geti dX12_records_1 fl_X12_251 (by first | rfl | assumption) rfl ?_
    refine hv_bipush (v := 40) dX12_records_4 (by decide) ?_
    refine hv_icmp_ne (tgt := 49) dX12_records_6 (by decide) (fun c_6 => absurd ((by rw [hn, h40]; rfl)) c_6) (fun c_6 => ?_)
    refine hv_iconst (v := 0) dX12_records_9 (by decide) ?_
    refine hv_istore_n dX12_records_10 rfl rfl ?_
    exact loop1 h40 1443 0 σ (by omega) (fun _ _ => rfl) (fun j hj => absurd hj (by omega)) (fun _ _ => rfl)
  · skip
    refine hv_aload_n dX12_records_0 rfl ?_
    refine hv_geti dX12_records_1 fl_X12_251 (by first | rfl | assumption) rfl ?_
    refine hv_bipush (v := 40) dX12_records_4 (by decide) ?_
    refine hv_icmp_ne (tgt := 49) dX12_records_6 (by decide) (fun c_6 => ?_) (fun c_6 => absurd c_6 ((by rw [hn]; exact fun qq => h40 ((nI_eq (b := 40) (by omega) (by decide)).mp qq))))
    refine hv_iconst (v := 0) dX12_records_49 (by decide) ?_
    refine hv_istore_n dX12_records_50 rfl rfl ?_
    exact loop2 _ σ nn (by omega) hn (fun σ2 b1 b2 b3 => tail σ σ2 nn (by omega) hn (fun _ _ => rfl) (fun _ _ => rfl) (by omega) (fun i j hi hj => by rw [Nat.sub_self, Nat.add_zero]) b1 b2 b3) 37 0 σ (by omega) (fun _ _ => rfl) (fun j hj => absurd hj (by omega)) (fun _ _ => rfl)
theorem d_eat {L h nn : Nat} {LF : Nat → hF → Int32} {a n : Int32} (ok : okR σ L h LF) (hn : σ 64 57 = nI nn) (hn40 : nn ≤ 40) : hCal G (m_X12_eat (fun v r' σ' τ' => rr 38 51 x y = r' ∧ τ = τ' ∧ ((¬ (isH h a = true ∧ inI 1 99 n = true) ∧ v = some (.int (-1)) ∧ σ = σ') ∨ (∃ i, i < h ∧ a = nI i ∧ inI 1 99 n = true ∧ σ 98 i < n ∧ v = some (.int (-2)) ∧ σ = σ') ∨ (∃ i, i < h ∧ a = nI i ∧ inI 1 99 n = true ∧ ¬ σ 98 i < n ∧ v = some (.int (σ 98 i - n)) ∧ σ' 98 i = σ 98 i - n ∧ σ' 98 (21 + i) = σ 98 (21 + i) + n ∧ σ' 98 (14 + i) = hmin (σ 98 (14 + i)) (σ 98 i - n) ∧ (∀ j, j < 37 → j ≠ i → j ≠ 21 + i → j ≠ 14 + i → σ' 98 j = σ 98 j) ∧ pDo nn σ σ')))) [.ref (hgA G 64), .int a, .int n] shp (rr 38 51 x y) σ τ := by
  have k2 := ok.1.2.2.2.1
  refine hv_enter pn_X12 rfl ?_
  refine hv_aload_n dX12_eat_0 rfl ?_
  refine hv_iload_n dX12_eat_1 rfl ?_
  refine hv_cv1 (d_isHouse ok.1.1 ok.1.2.1 ok.1.2.2.1 k2) dX12_eat_2 ml_X12_370 mk_X12_isHouse (by first | rfl | assumption) rfl rfl rfl rfl rfl ?_
  rintro _ _ _ _ ⟨rfl, rfl, rfl, rfl⟩
  refine hv_if_eq (tgt := 15) dX12_eat_5 (by decide) (fun c_5 => ?_) (fun c_5 => ?_)
  · refine hv_iconst (v := -1) dX12_eat_15 (by decide) ?_
    refine hv_iret dX12_eat_16 rfl ?_
    first
      | exact ⟨rfl, rfl, Or.inl ⟨fun qq => by rw [bI_0 c_12] at qq; exact absurd qq.2 (by decide), rfl, rfl⟩⟩
      | exact ⟨rfl, rfl, Or.inl ⟨fun qq => by rw [bI_0 c_5] at qq; exact absurd qq.1 (by decide), rfl, rfl⟩⟩
  · obtain ⟨i, hi, rfl⟩ := isH_ix k2 (bI_1 c_5)
    refine hv_iload_n dX12_eat_8 rfl ?_
    refine hv_cs1 (d_isSome) dX12_eat_9 ml_X12_382 mk_X12_isSome rfl rfl rfl ?_
    rintro _ _ _ _ ⟨rfl, rfl, rfl, rfl⟩
    refine hv_if_ne (tgt := 17) dX12_eat_12 (by decide) (fun c_12 => ?_) (fun c_12 => ?_)
    · refine hv_aload_n dX12_eat_17 rfl ?_
      refine hv_getr dX12_eat_18 fl_X12_119 (by first | rfl | assumption) rfl (by first | rfl | assumption) ?_
      refine hv_iload_n dX12_eat_21 rfl ?_
      refine hv_iald dX12_eat_22 (by first | rfl | assumption) rfl (by first | assumption | omega) (by first | decide | assumption) ?_
      refine hv_iload_n dX12_eat_23 rfl ?_
      refine hv_icmp_ge (tgt := 30) dX12_eat_24 (by decide) (fun c_24 => ?_) (fun c_24 => ?_)
      · refine hv_aload_n dX12_eat_30 rfl ?_
        refine hv_cv0 (d_copies ok.1.1 ok.1.2.1) dX12_eat_31 ml_X12_373 mk_X12_copies (by first | rfl | assumption) rfl rfl rfl rfl rfl ?_
        rintro _ _ σ1 _ ⟨rfl, rfl, rfl, q1, q2, q3⟩
        have qc := cp_of ok q1 q2 q3
        have c8 := qc.2.2.2.2.2.2.2
        refine hv_aload_n dX12_eat_34 rfl ?_
        refine hv_iload_n dX12_eat_35 rfl ?_
        refine hv_iload_n dX12_eat_36 rfl ?_
        refine hv_cv2 (d_eatsUp (by omega)) dX12_eat_37 ml_X12_358 mk_X12_eatsUp (by first | rfl | assumption) rfl rfl rfl rfl rfl ?_
        rintro _ _ σ2 _ ⟨rfl, rfl, rfl, p1, p2, p3, p4, p5⟩
        refine hv_aload_n dX12_eat_40 rfl ?_
        refine hv_cv0 (d_records (nn := nn) (by rw [p1 64 (by decide), qc.2.2.2.2.2.2.1 57 (by decide)]; exact hn) hn40) dX12_eat_41 ml_X12_385 mk_X12_records (by first | rfl | assumption) rfl rfl rfl rfl rfl ?_
        rintro _ _ σ3 _ ⟨rfl, rfl, rfl, r1, r2, r3, r4⟩
        refine hv_aload_n dX12_eat_44 rfl ?_
        refine hv_getr dX12_eat_45 fl_X12_119 (by first | rfl | assumption) rfl (by first | rfl | assumption) ?_
        refine hv_iload_n dX12_eat_48 rfl ?_
        refine hv_iald dX12_eat_49 (by first | rfl | assumption) rfl (by first | assumption | omega) (by first | decide | assumption) ?_
        refine hv_iret dX12_eat_50 rfl ?_
        refine ⟨rfl, rfl, Or.inr (Or.inr ⟨i, hi, rfl, bI_1 c_12, Int32.not_lt.mpr c_24, ?_, ?_, ?_, ?_, fun j j0 j1 j2 j3 => ?_, ?_⟩)⟩
        · rw [r2 i (by omega), p2, c8 i (by omega)]
        · rw [r2 i (by omega), p2, c8 i (by omega)]
        · rw [r2 _ (by omega), p3, c8 _ (by omega)]
        · rw [r2 _ (by omega), p4, c8 _ (by omega), c8 i (by omega)]
        · rw [r2 _ (by omega), p5 j j1 j2 j3, c8 _ (by omega)]
        · exact pDo_of q1 qc (off_wk p1 (by decide)) (fun j _ => by rw [p1 64 (by decide)]) r1 r3 r4
      · refine hv_bipush (v := -2) dX12_eat_27 (by decide) ?_
        refine hv_iret dX12_eat_29 rfl ?_
        exact ⟨rfl, rfl, Or.inr (Or.inl ⟨i, hi, rfl, bI_1 c_12, Int32.not_le.mp c_24, rfl, rfl⟩)⟩
    · refine hv_iconst (v := -1) dX12_eat_15 (by decide) ?_
      refine hv_iret dX12_eat_16 rfl ?_
      first
        | exact ⟨rfl, rfl, Or.inl ⟨fun qq => by rw [bI_0 c_12] at qq; exact absurd qq.2 (by decide), rfl, rfl⟩⟩
        | exact ⟨rfl, rfl, Or.inl ⟨fun qq => by rw [bI_0 c_5] at qq; exact absurd qq.1 (by decide), rfl, rfl⟩⟩
theorem d_salts {L h nn : Nat} {LF : Nat → hF → Int32} {a n : Int32} (ok : okR σ L h LF) (hn : σ 64 57 = nI nn) (hn40 : nn ≤ 40) : hCal G (m_X12_salts (fun v r' σ' τ' => rr 38 51 x y = r' ∧ τ = τ' ∧ ((¬ (isH h a = true ∧ inI 1 99 n = true) ∧ v = some (.int (-1)) ∧ σ = σ') ∨ (∃ i, i < h ∧ a = nI i ∧ inI 1 99 n = true ∧ (σ 98 i - σ 98 (14 + i) < n ∨ σ 98 35 < n) ∧ v = some (.int (-2)) ∧ σ = σ') ∨ (∃ i, i < h ∧ a = nI i ∧ inI 1 99 n = true ∧ ¬ (σ 98 i - σ 98 (14 + i) < n ∨ σ 98 35 < n) ∧ v = some (.int (σ 98 35 - n)) ∧ (∀ j, j < 37 → σ' 98 j = upd (upd (σ 98) (14 + i) (σ 98 (14 + i) + n)) 35 (σ 98 35 - n) j) ∧ pDo nn σ σ')))) [.ref (hgA G 64), .int a, .int n] shp (rr 38 51 x y) σ τ := by
  have k2 := ok.1.2.2.2.1
  refine hv_enter pn_X12 rfl ?_
  refine hv_aload_n dX12_salts_0 rfl ?_
  refine hv_iload_n dX12_salts_1 rfl ?_
  refine hv_cv1 (d_isHouse ok.1.1 ok.1.2.1 ok.1.2.2.1 k2) dX12_salts_2 ml_X12_370 mk_X12_isHouse (by first | rfl | assumption) rfl rfl rfl rfl rfl ?_
  rintro _ _ _ _ ⟨rfl, rfl, rfl, rfl⟩
  refine hv_if_eq (tgt := 15) dX12_salts_5 (by decide) (fun c_5 => ?_) (fun c_5 => ?_)
  · refine hv_iconst (v := -1) dX12_salts_15 (by decide) ?_
    refine hv_iret dX12_salts_16 rfl ?_
    first
      | exact ⟨rfl, rfl, Or.inl ⟨fun qq => by rw [bI_0 c_12] at qq; exact absurd qq.2 (by decide), rfl, rfl⟩⟩
      | exact ⟨rfl, rfl, Or.inl ⟨fun qq => by rw [bI_0 c_5] at qq; exact absurd qq.1 (by decide), rfl, rfl⟩⟩
  · obtain ⟨i, hi, rfl⟩ := isH_ix k2 (bI_1 c_5)
    refine hv_iload_n dX12_salts_8 rfl ?_
    refine hv_cs1 (d_isSome) dX12_salts_9 ml_X12_382 mk_X12_isSome rfl rfl rfl ?_
    rintro _ _ _ _ ⟨rfl, rfl, rfl, rfl⟩
    refine hv_if_ne (tgt := 17) dX12_salts_12 (by decide) (fun c_12 => ?_) (fun c_12 => ?_)
    · refine hv_aload_n dX12_salts_17 rfl ?_
      refine hv_getr dX12_salts_18 fl_X12_119 (by first | rfl | assumption) rfl (by first | rfl | assumption) ?_
      refine hv_iload_n dX12_salts_21 rfl ?_
      refine hv_iald dX12_salts_22 (by first | rfl | assumption) rfl (by first | assumption | omega) (by first | decide | assumption) ?_
      refine hv_aload_n dX12_salts_23 rfl ?_
      refine hv_getr dX12_salts_24 fl_X12_119 (by first | rfl | assumption) rfl (by first | rfl | assumption) ?_
      refine hv_bipush (v := 14) dX12_salts_27 (by decide) ?_
      refine hv_iload_n dX12_salts_29 rfl ?_
      refine hv_iadd dX12_salts_30 ?_
      refine hv_iald dX12_salts_31 (by first | rfl | assumption) (j := 14 + i) (nI_add 14 i) (by omega) (by first | decide | assumption) ?_
      refine hv_isub dX12_salts_32 ?_
      refine hv_iload_n dX12_salts_33 rfl ?_
      refine hv_icmp_lt (tgt := 48) dX12_salts_34 (by decide) (fun c_34 => ?_) (fun c_34 => ?_)
      · refine hv_bipush (v := -2) dX12_salts_48 (by decide) ?_
        refine hv_iret dX12_salts_50 rfl ?_
        first
          | exact ⟨rfl, rfl, Or.inr (Or.inl ⟨i, hi, rfl, bI_1 c_12, Or.inr (Int32.not_le.mp c_45), rfl, rfl⟩)⟩
          | exact ⟨rfl, rfl, Or.inr (Or.inl ⟨i, hi, rfl, bI_1 c_12, Or.inl c_34, rfl, rfl⟩)⟩
      · refine hv_aload_n dX12_salts_37 rfl ?_
        refine hv_getr dX12_salts_38 fl_X12_119 (by first | rfl | assumption) rfl (by first | rfl | assumption) ?_
        refine hv_bipush (v := 35) dX12_salts_41 (by decide) ?_
        refine hv_iald dX12_salts_43 (by first | rfl | assumption) (j := 35) rfl (by decide) (by first | decide | assumption) ?_
        refine hv_iload_n dX12_salts_44 rfl ?_
        refine hv_icmp_ge (tgt := 51) dX12_salts_45 (by decide) (fun c_45 => ?_) (fun c_45 => ?_)
        · refine hv_aload_n dX12_salts_51 rfl ?_
          refine hv_cv0 (d_copies ok.1.1 ok.1.2.1) dX12_salts_52 ml_X12_373 mk_X12_copies (by first | rfl | assumption) rfl rfl rfl rfl rfl ?_
          rintro _ _ σ1 _ ⟨rfl, rfl, rfl, q1, q2, q3⟩
          have qc := cp_of ok q1 q2 q3
          have c8 := qc.2.2.2.2.2.2.2
          refine hv_aload_n dX12_salts_55 rfl ?_
          refine hv_getr dX12_salts_56 fl_X12_122 (by first | rfl | assumption) rfl (by first | rfl | assumption) ?_
          refine hv_bipush (v := 14) dX12_salts_59 (by decide) ?_
          refine hv_iload_n dX12_salts_61 rfl ?_
          refine hv_iadd dX12_salts_62 ?_
          refine hv_dup2 dX12_salts_63 rfl rfl ?_
          refine hv_iald dX12_salts_64 (by first | rfl | assumption) (j := 14 + i) (nI_add 14 i) (by omega) (by first | decide | assumption) ?_
          refine hv_iload_n dX12_salts_65 rfl ?_
          refine hv_iadd dX12_salts_66 ?_
          refine hv_iast dX12_salts_67 (by first | rfl | assumption) (j := 14 + i) (nI_add 14 i) (by omega) (by first | decide | assumption) ?_
          refine hv_aload_n dX12_salts_68 rfl ?_
          refine hv_getr dX12_salts_69 fl_X12_122 (by first | rfl | assumption) rfl (by first | rfl | assumption) ?_
          refine hv_bipush (v := 35) dX12_salts_72 (by decide) ?_
          refine hv_dup2 dX12_salts_74 rfl rfl ?_
          refine hv_iald dX12_salts_75 (by first | rfl | assumption) (j := 35) rfl (by decide) (by first | decide | assumption) ?_
          refine hv_iload_n dX12_salts_76 rfl ?_
          refine hv_isub dX12_salts_77 ?_
          refine hv_iast dX12_salts_78 (by first | rfl | assumption) (j := 35) rfl (by decide) (by first | decide | assumption) ?_
          rw [hup_eq, pk_un (show 35 ≠ 14 + i by omega), c8 (14 + i) (by omega), c8 35 (by omega)]
          obtain ⟨σ2, hσ2⟩ : ∃ σ2 : hS, va_up (va_up σ1 99 (upd (σ1 99) (14 + i) (σ 98 (14 + i) + n))) 99 (upd (upd (σ1 99) (14 + i) (σ 98 (14 + i) + n)) 35 (σ 98 35 - n)) = σ2 := ⟨_, rfl⟩
          rw [hσ2]
          have p1 : ∀ k, k ∉ [99] → σ2 k = σ1 k := fun k hk => by rw [← hσ2, hva_ne (by simpa using hk), hva_ne (by simpa using hk)]
          have p2 : ∀ j, j < 37 → σ2 99 j = upd (upd (σ 98) (14 + i) (σ 98 (14 + i) + n)) 35 (σ 98 35 - n) j := by rw [← hσ2, hup_eq]; exact upd_37 (upd_37 c8 rfl) rfl
          refine hv_aload_n dX12_salts_79 rfl ?_
          refine hv_cv0 (d_records (nn := nn) (by rw [p1 64 (by decide), qc.2.2.2.2.2.2.1 57 (by decide)]; exact hn) hn40) dX12_salts_80 ml_X12_385 mk_X12_records (by first | rfl | assumption) rfl rfl rfl rfl rfl ?_
          rintro _ _ σ3 _ ⟨rfl, rfl, rfl, r1, r2, r3, r4⟩
          refine hv_aload_n dX12_salts_83 rfl ?_
          refine hv_getr dX12_salts_84 fl_X12_119 (by first | rfl | assumption) rfl (by first | rfl | assumption) ?_
          refine hv_bipush (v := 35) dX12_salts_87 (by decide) ?_
          refine hv_iald dX12_salts_89 (by first | rfl | assumption) (j := 35) rfl (by decide) (by first | decide | assumption) ?_
          refine hv_iret dX12_salts_90 rfl ?_
          refine ⟨rfl, rfl, Or.inr (Or.inr ⟨i, hi, rfl, bI_1 c_12, fun qq => qq.elim c_34 (Int32.not_lt.mpr c_45), ?_, fun j hj => ?_, ?_⟩)⟩
          · rw [r2 35 (by omega), p2 35 (by omega), pk_us]
          · rw [r2 j hj, p2 j hj]
          · exact pDo_of q1 qc (off_wk p1 (by decide)) (fun j _ => by rw [p1 64 (by decide)]) r1 r3 r4
        · refine hv_bipush (v := -2) dX12_salts_48 (by decide) ?_
          refine hv_iret dX12_salts_50 rfl ?_
          first
            | exact ⟨rfl, rfl, Or.inr (Or.inl ⟨i, hi, rfl, bI_1 c_12, Or.inr (Int32.not_le.mp c_45), rfl, rfl⟩)⟩
            | exact ⟨rfl, rfl, Or.inr (Or.inl ⟨i, hi, rfl, bI_1 c_12, Or.inl c_34, rfl, rfl⟩)⟩
    · refine hv_iconst (v := -1) dX12_salts_15 (by decide) ?_
      refine hv_iret dX12_salts_16 rfl ?_
      first
        | exact ⟨rfl, rfl, Or.inl ⟨fun qq => by rw [bI_0 c_12] at qq; exact absurd qq.2 (by decide), rfl, rfl⟩⟩
        | exact ⟨rfl, rfl, Or.inl ⟨fun qq => by rw [bI_0 c_5] at qq; exact absurd qq.1 (by decide), rfl, rfl⟩⟩
end S59

