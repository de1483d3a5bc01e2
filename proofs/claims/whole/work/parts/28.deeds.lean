abbrev m_X11_eat (Q : hPo) : hMe := (hrm 3, 0, 0, yX11_eat, cX11_eat, 3, (some FieldType.int), shp, none, Q)
abbrev m_X11_salts (Q : hPo) : hMe := (hrm 3, 0, 0, yX11_salts, cX11_salts, 3, (some FieldType.int), shp, none, Q)
abbrev m_X11_buy (Q : hPo) : hMe := (hrm 3, 0, 0, yX11_buy, cX11_buy, 5, (some FieldType.int), shp, none, Q)
abbrev m_X11_proxy (Q : hPo) : hMe := (hrm 3, 0, 0, yX11_proxy, cX11_proxy, 4, (some FieldType.boolean), shp, none, Q)
abbrev m_X11_days (Q : hPo) : hMe := (hrm 5, 0, 0, yX11_days, cX11_days, 2, (some FieldType.int), shp, none, Q)
abbrev m_X11_undo (Q : hPo) : hMe := (hrm 3, 0, 0, yX11_undo, cX11_undo, 1, (some FieldType.boolean), shp, none, Q)
abbrev m_X11_hold (Q : hPo) : hMe := (hrm 3, 0, 0, yX11_hold, cX11_hold, 2, (some FieldType.boolean), shp, none, Q)
abbrev m_X11_restore (Q : hPo) : hMe := (hrm 3, 0, 0, yX11_restore, cX11_restore, 2, (some FieldType.boolean), shp, none, Q)
abbrev m_X11_back (Q : hPo) : hMe := (hrm 0, 0, 0, yX11_back, cX11_back, 2, (some FieldType.int), shp, none, Q)
abbrev m_X11_place (Q : hPo) : hMe := (hrm 0, 0, 0, yX11_place, cX11_place, 1, (some FieldType.int), shp, none, Q)
abbrev m_X11_feed (Q : hPo) : hMe := (hrm 1, 0, 0, yX11_feed, cX11_feed, 6, (some FieldType.int), shp, none, Q)
abbrev m_X7_add (Q : hPo) : hMe := (hrm 0, 0, 0, yX7_add, cX7_add, 3, (none : Option FieldType), shp, none, Q)
abbrev m_X7_hasRoom (Q : hPo) : hMe := (hrm 0, 0, 0, yX7_hasRoom, cX7_hasRoom, 2, (some FieldType.boolean), shp, none, Q)
/-- behind Past.keep -/
def pKp (σ : hS) (o n : Nat) (σ' : hS) : Prop := pRow (σ' 18) ((o + n) % 40 * 38) σ ∧ (∀ j, j < (o + n) % 40 * 38 ∨ (o + n) % 40 * 38 + 38 ≤ j → σ' 18 j = σ 18 j) ∧ (n < 40 → σ' 17 3 = nI o ∧ σ' 17 4 = nI (n + 1)) ∧ (n = 40 → σ' 17 3 = nI ((o + 1) % 40) ∧ σ' 17 4 = nI 40)
theorem pKp_of {σ σ1 σ2 : hS} {o n : Nat} (hq : pKp σ o n σ1) (h17 : σ2 17 = σ1 17) (h18 : σ2 18 = σ1 18) : pKp σ o n σ2 := by
  unfold pKp
  rw [h17, h18]
  exact hq
def okK (σ : hS) (o n : Nat) : Prop := σ 17 3 = nI o ∧ o < 40 ∧ σ 17 4 = nI n ∧ n ≤ 40
def fHasP (f : hF) (a : Int32) : Nat → Bool
  | 0 => false
  | n + 1 => fHasP f a n || decide (f n = a)
section S28
variable {G : hGl} {σ : hS} {τ : hT} {x y : Option Nat}
theorem c_kp {o n : Nat} (hk : okK σ o n) : hCal G (m_X5_keep (hQp [17, 18] none (rr 38 51 x y) σ τ (fun σ' => pKp σ o n σ'))) [.ref (hgA G 17), .ref (hgA G 11)] shp (rr 38 51 x y) σ τ := c_keep hk.1 hk.2.1 hk.2.2.1 hk.2.2.2
theorem c_eat {h o nn : Nat} {a n : Int32} (h38 : σ 38 7 = nI h) (k2 : h ≤ 7) (hk : okK σ o nn) : hCal G (m_X11_eat (fun v r' σ' τ' => rr 38 51 x y = r' ∧ τ = τ' ∧ ((¬ (isH h a = true ∧ inI 1 99 n = true) ∧ v = some (.int (-1)) ∧ σ = σ') ∨ (∃ i, i < h ∧ a = nI i ∧ inI 1 99 n = true ∧ σ 12 i < n ∧ v = some (.int (-2)) ∧ σ = σ') ∨ (∃ i, i < h ∧ a = nI i ∧ inI 1 99 n = true ∧ ¬ σ 12 i < n ∧ v = some (.int (σ 12 i - n)) ∧ (∀ k, k ∉ [12, 14, 15, 17, 18] → σ' k = σ k) ∧ σ' 12 = upd (σ 12) i (σ 12 i - n) ∧ σ' 14 = upd (σ 14) i (hmin (σ 14 i) (σ 12 i - n)) ∧ σ' 15 = upd (σ 15) i (σ 15 i + n) ∧ pKp σ o nn σ')))) [.ref (hgA G 0), .int a, .int n] shp (rr 38 51 x y) σ τ := by
  refine hv_enter pn_X11 rfl ?_
  refine hv_aload_n dX11_eat_0 rfl ?_
  refine hv_iload_n dX11_eat_1 rfl ?_
  refine hv_cv1 (c_isHouse h38) dX11_eat_2 ml_X11_141 mk_X11_isHouse (by first | rfl | assumption) rfl rfl rfl rfl rfl ?_
  rintro _ _ _ _ ⟨rfl, rfl, rfl, rfl⟩
  refine hv_if_eq (tgt := 16) dX11_eat_5 (by decide) (fun c_5 => ?_) (fun c_5 => ?_)
  · refine hv_iconst (v := -1) dX11_eat_16 (by decide) ?_
    refine hv_iret dX11_eat_17 rfl ?_
    first
      | exact ⟨rfl, rfl, Or.inl ⟨fun qq => by rw [bI_0 c_13] at qq; exact absurd qq.2 (by decide), rfl, rfl⟩⟩
      | exact ⟨rfl, rfl, Or.inl ⟨fun qq => by rw [bI_0 c_5] at qq; exact absurd qq.1 (by decide), rfl, rfl⟩⟩
  · obtain ⟨i, hi, rfl⟩ := isH_ix k2 (bI_1 c_5)
    refine hv_aload_n dX11_eat_8 rfl ?_
    refine hv_iload_n dX11_eat_9 rfl ?_
    refine hv_cv1 (c_isByHand) dX11_eat_10 ml_X11_193 mk_X11_isByHand (by first | rfl | assumption) rfl rfl rfl rfl rfl ?_
    rintro _ _ _ _ ⟨rfl, rfl, rfl, rfl⟩
    refine hv_if_ne (tgt := 18) dX11_eat_13 (by decide) (fun c_13 => ?_) (fun c_13 => ?_)
    · refine hv_aload_n dX11_eat_18 rfl ?_
      refine hv_getr dX11_eat_19 fl_X11_44 (by first | rfl | assumption) rfl (by first | rfl | assumption) ?_
      refine hv_getr dX11_eat_22 fl_X11_144 (by first | rfl | assumption) rfl (by first | rfl | assumption) ?_
      refine hv_iload_n dX11_eat_25 rfl ?_
      refine hv_iald dX11_eat_26 (by first | rfl | assumption) rfl (by first | assumption | omega) (by first | decide | assumption) ?_
      refine hv_iload_n dX11_eat_27 rfl ?_
      refine hv_icmp_ge (tgt := 34) dX11_eat_28 (by decide) (fun c_28 => ?_) (fun c_28 => ?_)
      · refine hv_aload_n dX11_eat_34 rfl ?_
        refine hv_getr dX11_eat_35 fl_X11_51 (by first | rfl | assumption) rfl (by first | rfl | assumption) ?_
        refine hv_aload_n dX11_eat_38 rfl ?_
        refine hv_getr dX11_eat_39 fl_X11_44 (by first | rfl | assumption) rfl (by first | rfl | assumption) ?_
        refine hv_cv1 (c_kp hk) dX11_eat_42 ml_X11_196 mk_X5_keep (by first | rfl | assumption) rfl rfl rfl rfl rfl ?_
        rintro _ _ σ1 _ ⟨rfl, rfl, rfl, hq1, hq2⟩
        refine hv_aload_n dX11_eat_45 rfl ?_
        refine hv_getr dX11_eat_46 fl_X11_44 (by first | rfl | assumption) rfl (by first | rfl | assumption) ?_
        refine hv_iload_n dX11_eat_49 rfl ?_
        refine hv_iload_n dX11_eat_50 rfl ?_
        refine hv_cv2 (c_consume_11 (by omega)) dX11_eat_51 ml_X11_204 mk_X6_consume (by first | rfl | assumption) rfl rfl rfl rfl rfl ?_
        rintro _ _ _ _ ⟨rfl, rfl, rfl, rfl⟩
        refine hv_aload_n dX11_eat_54 rfl ?_
        refine hv_getr dX11_eat_55 fl_X11_44 (by first | rfl | assumption) rfl (by first | rfl | assumption) ?_
        refine hv_getr dX11_eat_58 fl_X11_144 (by first | rfl | assumption) rfl (by first | rfl | assumption) ?_
        refine hv_iload_n dX11_eat_61 rfl ?_
        refine hv_iald dX11_eat_62 (by first | rfl | assumption) rfl (by first | assumption | omega) (by first | decide | assumption) ?_
        refine hv_iret dX11_eat_63 rfl ?_
        have e12 := hq1 12 (by decide)
        have e14 := hq1 14 (by decide)
        have e15 := hq1 15 (by decide)
        refine ⟨rfl, rfl, Or.inr (Or.inr ⟨i, hi, rfl, bI_1 c_13, Int32.not_lt.mpr c_28, ?_, ?_, ?_, ?_, ?_, ?_⟩)⟩
        · simp [sConsume_11, va_up, pk_us, e12]
        · intro k hk2
          simp only [List.mem_cons, List.not_mem_nil, or_false, not_or] at hk2
          rw [sConsume_11, hva_ne hk2.2.2.1, hva_ne hk2.2.1, hva_ne hk2.1]
          exact hq1 k (by simp [hk2.2.2.2.1, hk2.2.2.2.2])
        · simp [sConsume_11, va_up, e12]
        · simp [sConsume_11, va_up, e12, e14]
        · simp [sConsume_11, va_up, e15]
        · refine pKp_of hq2 ?_ ?_ <;> simp [sConsume_11, va_up]
      · refine hv_bipush (v := -2) dX11_eat_31 (by decide) ?_
        refine hv_iret dX11_eat_33 rfl ?_
        exact ⟨rfl, rfl, Or.inr (Or.inl ⟨i, hi, rfl, bI_1 c_13, Int32.not_le.mp c_28, rfl, rfl⟩)⟩
    · refine hv_iconst (v := -1) dX11_eat_16 (by decide) ?_
      refine hv_iret dX11_eat_17 rfl ?_
      first
        | exact ⟨rfl, rfl, Or.inl ⟨fun qq => by rw [bI_0 c_13] at qq; exact absurd qq.2 (by decide), rfl, rfl⟩⟩
        | exact ⟨rfl, rfl, Or.inl ⟨fun qq => by rw [bI_0 c_5] at qq; exact absurd qq.1 (by decide), rfl, rfl⟩⟩
theorem c_salts {h o nn : Nat} {a n : Int32} (h38 : σ 38 7 = nI h) (k2 : h ≤ 7) (hk : okK σ o nn) : hCal G (m_X11_salts (fun v r' σ' τ' => rr 38 51 x y = r' ∧ τ = τ' ∧ ((¬ (isH h a = true ∧ inI 1 99 n = true) ∧ v = some (.int (-1)) ∧ σ = σ') ∨ (∃ i, i < h ∧ a = nI i ∧ inI 1 99 n = true ∧ (σ 12 i - σ 14 i < n ∨ σ 11 7 < n) ∧ v = some (.int (-2)) ∧ σ = σ') ∨ (∃ i, i < h ∧ a = nI i ∧ inI 1 99 n = true ∧ ¬ (σ 12 i - σ 14 i < n ∨ σ 11 7 < n) ∧ v = some (.int (σ 11 7 - n)) ∧ (∀ k, k ∉ [11, 14, 17, 18] → σ' k = σ k) ∧ σ' 14 = upd (σ 14) i (σ 14 i + n) ∧ σ' 11 = upd (σ 11) 7 (σ 11 7 - n) ∧ pKp σ o nn σ')))) [.ref (hgA G 0), .int a, .int n] shp (rr 38 51 x y) σ τ := by
  refine hv_enter pn_X11 rfl ?_
  refine hv_aload_n dX11_salts_0 rfl ?_
  refine hv_iload_n dX11_salts_1 rfl ?_
  refine hv_cv1 (c_isHouse h38) dX11_salts_2 ml_X11_141 mk_X11_isHouse (by first | rfl | assumption) rfl rfl rfl rfl rfl ?_
  rintro _ _ _ _ ⟨rfl, rfl, rfl, rfl⟩
  refine hv_if_eq (tgt := 16) dX11_salts_5 (by decide) (fun c_5 => ?_) (fun c_5 => ?_)
  · refine hv_iconst (v := -1) dX11_salts_16 (by decide) ?_
    refine hv_iret dX11_salts_17 rfl ?_
    first
      | exact ⟨rfl, rfl, Or.inl ⟨fun qq => by rw [bI_0 c_13] at qq; exact absurd qq.2 (by decide), rfl, rfl⟩⟩
      | exact ⟨rfl, rfl, Or.inl ⟨fun qq => by rw [bI_0 c_5] at qq; exact absurd qq.1 (by decide), rfl, rfl⟩⟩
  · obtain ⟨i, hi, rfl⟩ := isH_ix k2 (bI_1 c_5)
    refine hv_aload_n dX11_salts_8 rfl ?_
    refine hv_iload_n dX11_salts_9 rfl ?_
    refine hv_cv1 (c_isByHand) dX11_salts_10 ml_X11_193 mk_X11_isByHand (by first | rfl | assumption) rfl rfl rfl rfl rfl ?_
    rintro _ _ _ _ ⟨rfl, rfl, rfl, rfl⟩
    refine hv_if_ne (tgt := 18) dX11_salts_13 (by decide) (fun c_13 => ?_) (fun c_13 => ?_)
    · refine hv_aload_n dX11_salts_18 rfl ?_
      refine hv_getr dX11_salts_19 fl_X11_44 (by first | rfl | assumption) rfl (by first | rfl | assumption) ?_
      refine hv_iload_n dX11_salts_22 rfl ?_
      refine hv_cv1 (c_fresh_11 (by omega)) dX11_salts_23 ml_X11_208 mk_X6_fresh (by first | rfl | assumption) rfl rfl rfl rfl rfl ?_
      rintro _ _ _ _ ⟨rfl, rfl, rfl, rfl⟩
      refine hv_iload_n dX11_salts_26 rfl ?_
      refine hv_icmp_lt (tgt := 41) dX11_salts_27 (by decide) (fun c_27 => ?_) (fun c_27 => ?_)
      · refine hv_bipush (v := -2) dX11_salts_41 (by decide) ?_
        refine hv_iret dX11_salts_43 rfl ?_
        first
          | exact ⟨rfl, rfl, Or.inr (Or.inl ⟨i, hi, rfl, bI_1 c_13, Or.inr (Int32.not_le.mp c_38), rfl, rfl⟩)⟩
          | exact ⟨rfl, rfl, Or.inr (Or.inl ⟨i, hi, rfl, bI_1 c_13, Or.inl c_27, rfl, rfl⟩)⟩
      · refine hv_aload_n dX11_salts_30 rfl ?_
        refine hv_getr dX11_salts_31 fl_X11_44 (by first | rfl | assumption) rfl (by first | rfl | assumption) ?_
        refine hv_geti dX11_salts_34 fl_X11_211 (by first | rfl | assumption) rfl ?_
        refine hv_iload_n dX11_salts_37 rfl ?_
        refine hv_icmp_ge (tgt := 44) dX11_salts_38 (by decide) (fun c_38 => ?_) (fun c_38 => ?_)
        · refine hv_aload_n dX11_salts_44 rfl ?_
          refine hv_getr dX11_salts_45 fl_X11_51 (by first | rfl | assumption) rfl (by first | rfl | assumption) ?_
          refine hv_aload_n dX11_salts_48 rfl ?_
          refine hv_getr dX11_salts_49 fl_X11_44 (by first | rfl | assumption) rfl (by first | rfl | assumption) ?_
          refine hv_cv1 (c_kp hk) dX11_salts_52 ml_X11_196 mk_X5_keep (by first | rfl | assumption) rfl rfl rfl rfl rfl ?_
          rintro _ _ σ1 _ ⟨rfl, rfl, rfl, hq1, hq2⟩
          refine hv_aload_n dX11_salts_55 rfl ?_
          refine hv_getr dX11_salts_56 fl_X11_44 (by first | rfl | assumption) rfl (by first | rfl | assumption) ?_
          refine hv_getr dX11_salts_59 fl_X11_157 (by first | rfl | assumption) rfl (by first | rfl | assumption) ?_
          refine hv_iload_n dX11_salts_62 rfl ?_
          refine hv_dup2 dX11_salts_63 rfl rfl ?_
          refine hv_iald dX11_salts_64 (by first | rfl | assumption) rfl (by first | assumption | omega) (by first | decide | assumption) ?_
          refine hv_iload_n dX11_salts_65 rfl ?_
          refine hv_iadd dX11_salts_66 ?_
          refine hv_iast dX11_salts_67 (by first | rfl | assumption) rfl (by first | assumption | omega) (by first | decide | assumption) ?_
          refine hv_aload_n dX11_salts_68 rfl ?_
          refine hv_getr dX11_salts_69 fl_X11_44 (by first | rfl | assumption) rfl (by first | rfl | assumption) ?_
          refine hv_dup dX11_salts_72 rfl ?_
          refine hv_geti dX11_salts_73 fl_X11_211 (by first | rfl | assumption) rfl ?_
          refine hv_iload_n dX11_salts_76 rfl ?_
          refine hv_isub dX11_salts_77 ?_
          refine hv_puti dX11_salts_78 fl_X11_211 (by first | rfl | assumption) rfl rfl rfl ?_
          refine hv_aload_n dX11_salts_81 rfl ?_
          refine hv_getr dX11_salts_82 fl_X11_44 (by first | rfl | assumption) rfl (by first | rfl | assumption) ?_
          refine hv_geti dX11_salts_85 fl_X11_211 (by first | rfl | assumption) rfl ?_
          refine hv_iret dX11_salts_88 rfl ?_
          have e11 := hq1 11 (by decide)
          have e14 := hq1 14 (by decide)
          refine ⟨rfl, rfl, Or.inr (Or.inr ⟨i, hi, rfl, bI_1 c_13, fun qq => qq.elim c_27 (Int32.not_lt.mpr c_38), ?_, ?_, ?_, ?_, ?_⟩)⟩
          · simp [va_up, upd, e11]
          · intro k hk2
            simp only [List.mem_cons, List.not_mem_nil, or_false, not_or] at hk2
            rw [hva_ne hk2.1, hva_ne hk2.2.1]
            exact hq1 k (by simp [hk2.2.2.1, hk2.2.2.2])
          · simp [va_up, e14]
          · simp [va_up, e11]
          · refine pKp_of hq2 ?_ ?_ <;> simp [va_up]
        · refine hv_bipush (v := -2) dX11_salts_41 (by decide) ?_
          refine hv_iret dX11_salts_43 rfl ?_
          first
            | exact ⟨rfl, rfl, Or.inr (Or.inl ⟨i, hi, rfl, bI_1 c_13, Or.inr (Int32.not_le.mp c_38), rfl, rfl⟩)⟩
            | exact ⟨rfl, rfl, Or.inr (Or.inl ⟨i, hi, rfl, bI_1 c_13, Or.inl c_27, rfl, rfl⟩)⟩
    · refine hv_iconst (v := -1) dX11_salts_16 (by decide) ?_
      refine hv_iret dX11_salts_17 rfl ?_
      first
        | exact ⟨rfl, rfl, Or.inl ⟨fun qq => by rw [bI_0 c_13] at qq; exact absurd qq.2 (by decide), rfl, rfl⟩⟩
        | exact ⟨rfl, rfl, Or.inl ⟨fun qq => by rw [bI_0 c_5] at qq; exact absurd qq.1 (by decide), rfl, rfl⟩⟩
theorem c_days {h sz o nn : Nat} {n : Int32} (ok : okC σ h sz) (hs5 : σ 11 5 = nI h) (hk : okK σ o nn) : hCal G (m_X11_days (fun v r' σ' τ' => rr 38 51 x y = r' ∧ τ = τ' ∧ ((¬ inI 0 60 n = true ∧ v = some (.int (-1)) ∧ σ = σ') ∨ (n = 0 ∧ v = some (.int (σ 11 6)) ∧ σ = σ') ∨ (∃ i, i ≤ 60 ∧ 1 ≤ i ∧ n = nI i ∧ v = some (.int (σ' 11 6)) ∧ (∀ k, k ∉ [17, 18, 28, 29, 30, 49, 50, 11, 12, 14, 15] → σ' k = σ k) ∧ dEq h (dyC σ' 11) (fDays (twC σ h sz) (fGl (twC σ h sz) (σ 38 12)) i (dyC σ 11)) ∧ σ' 11 5 = nI h ∧ pKp σ o nn σ')))) [.ref (hgA G 0), .int n] shp (rr 38 51 x y) σ τ := by
  refine hv_enter pn_X11 rfl ?_
  refine hv_aload_n dX11_days_0 rfl ?_
  refine hv_iload_n dX11_days_1 rfl ?_
  refine hv_cv1 (c_isSpan) dX11_days_2 ml_X11_217 mk_X11_isSpan (by first | rfl | assumption) rfl rfl rfl rfl rfl ?_
  rintro _ _ _ _ ⟨rfl, rfl, rfl, rfl⟩
  refine hv_if_ne (tgt := 10) dX11_days_5 (by decide) (fun c_5 => ?_) (fun c_5 => ?_)
  · obtain ⟨i, hi, rfl⟩ := inI_ix (n := 60) (by decide) (bI_1 c_5)
    refine hv_iload_n dX11_days_10 rfl ?_
    refine hv_if_le (tgt := 48) dX11_days_11 (by decide) (fun c_11 => ?_) (fun c_11 => ?_)
    · refine hv_aload_n dX11_days_48 rfl ?_
      refine hv_getr dX11_days_49 fl_X11_44 (by first | rfl | assumption) rfl (by first | rfl | assumption) ?_
      refine hv_geti dX11_days_52 fl_X11_227 (by first | rfl | assumption) rfl ?_
      refine hv_iret dX11_days_55 rfl ?_
      first
        | (have hi1 : 1 ≤ i := Nat.not_lt.mp fun qq => c_11 (by rw [show i = 0 by omega]; decide)
           rw [twC_of hq1 rfl, dyC_of hq1 rfl, hq1 38 (by decide)] at hq4
           exact ⟨rfl, rfl, Or.inr (Or.inr ⟨i, hi, hi1, rfl, rfl, off_tr hq1 hq3 (by decide) (by decide), hq4, hq5, pKp_of hq2 (hq3 17 (by decide)) (hq3 18 (by decide))⟩)⟩)
        | (have hi0 : i = 0 := by
             by_cases hz : i = 0
             · exact hz
             · exact absurd c_11 (nI_nle (by omega) (by omega))
           subst hi0
           exact ⟨rfl, rfl, Or.inr (Or.inl ⟨rfl, rfl, rfl⟩)⟩)
    · refine hv_aload_n dX11_days_14 rfl ?_
      refine hv_getr dX11_days_15 fl_X11_51 (by first | rfl | assumption) rfl (by first | rfl | assumption) ?_
      refine hv_aload_n dX11_days_18 rfl ?_
      refine hv_getr dX11_days_19 fl_X11_44 (by first | rfl | assumption) rfl (by first | rfl | assumption) ?_
      refine hv_cv1 (c_kp hk) dX11_days_22 ml_X11_196 mk_X5_keep (by first | rfl | assumption) rfl rfl rfl rfl rfl ?_
      rintro _ _ σ1 _ ⟨rfl, rfl, rfl, hq1, hq2⟩
      refine hv_aload_n dX11_days_25 rfl ?_
      refine hv_getr dX11_days_26 fl_X11_58 (by first | rfl | assumption) rfl (by first | rfl | assumption) ?_
      refine hv_aload_n dX11_days_29 rfl ?_
      refine hv_getr dX11_days_30 fl_X11_81 (by first | rfl | assumption) rfl (by first | rfl | assumption) ?_
      refine hv_aload_n dX11_days_33 rfl ?_
      refine hv_getr dX11_days_34 fl_X11_44 (by first | rfl | assumption) rfl (by first | rfl | assumption) ?_
      refine hv_iload_n dX11_days_37 rfl ?_
      refine hv_aload_n dX11_days_38 rfl ?_
      refine hv_getr dX11_days_39 fl_X11_81 (by first | rfl | assumption) rfl (by first | rfl | assumption) ?_
      refine hv_geti dX11_days_42 fl_X11_220 (by first | rfl | assumption) rfl ?_
      refine hv_cv4 (c_passMany_11 (okC_of ok hq1 rfl) (by rw [hq1 11 (by decide)]; exact hs5) (by omega)) dX11_days_45 ml_X11_223 mk_X2_passMany (by first | rfl | assumption) rfl rfl rfl rfl rfl ?_
      rintro _ _ σ2 _ ⟨rfl, rfl, rfl, hq3, hq4, hq5⟩
      refine hv_aload_n dX11_days_48 rfl ?_
      refine hv_getr dX11_days_49 fl_X11_44 (by first | rfl | assumption) rfl (by first | rfl | assumption) ?_
      refine hv_geti dX11_days_52 fl_X11_227 (by first | rfl | assumption) rfl ?_
      refine hv_iret dX11_days_55 rfl ?_
      first
        | (have hi1 : 1 ≤ i := Nat.not_lt.mp fun qq => c_11 (by rw [show i = 0 by omega]; decide)
           rw [twC_of hq1 rfl, dyC_of hq1 rfl, hq1 38 (by decide)] at hq4
           exact ⟨rfl, rfl, Or.inr (Or.inr ⟨i, hi, hi1, rfl, rfl, off_tr hq1 hq3 (by decide) (by decide), hq4, hq5, pKp_of hq2 (hq3 17 (by decide)) (hq3 18 (by decide))⟩)⟩)
        | (have hi0 : i = 0 := by
             by_cases hz : i = 0
             · exact hz
             · exact absurd c_11 (nI_nle (by omega) (by omega))
           subst hi0
           exact ⟨rfl, rfl, Or.inr (Or.inl ⟨rfl, rfl, rfl⟩)⟩)
  · refine hv_iconst (v := -1) dX11_days_8 (by decide) ?_
    refine hv_iret dX11_days_9 rfl ?_
    exact ⟨rfl, rfl, Or.inl ⟨by rw [bI_0 c_5]; decide, rfl, rfl⟩⟩
theorem c_hasProxy {h : Nat} {a : Int32} (hs5 : σ 11 5 = nI h) (k2 : h ≤ 7) : hCal G (m_X6_hasProxy (hEq (some (.int (bI (fHasP (σ 16) a h)))) (rr 38 51 x y) σ τ)) [.ref (hgA G 11), .int a] shp (rr 38 51 x y) σ τ := by
  have hz : ∀ (u v : Bool), bI u ||| bI v = bI (u || v) := by decide
  refine hv_enter pn_X6 rfl ?_
  have loop : ∀ k i, i + k = h → hV G (m_X6_hasProxy (hEq (some (.int (bI (fHasP (σ 16) a h)))) (rr 38 51 x y) σ τ)) 0 0 shp 4 [some (.ref (hgA G 11)), some (.int a), some (.int (bI (fHasP (σ 16) a i))), some (.int (nI i))] [] (rr 38 51 x y) σ τ := by
    intro k
    induction k with
    | zero =>
      intro i hi
      obtain rfl : i = h := by omega
      refine hv_iload_n dX6_hasProxy_4 rfl ?_
      refine hv_aload_n dX6_hasProxy_5 rfl ?_
      refine hv_geti dX6_hasProxy_6 fl_X6_33 (by first | rfl | assumption) rfl ?_
      refine hv_icmp_ge (tgt := 36) dX6_hasProxy_9 (by decide) (fun c_9 => ?_) (fun c_9 => absurd ((by rw [hs5]; exact nI_le (Nat.le_refl _) (by omega))) c_9)
      refine hv_iload_n dX6_hasProxy_36 rfl ?_
      refine hv_zret dX6_hasProxy_37 rfl (bI_01 _) ?_
      exact ⟨rfl, rfl, rfl, rfl⟩
    | succ k ih =>
      intro i hi
      refine hv_iload_n dX6_hasProxy_4 rfl ?_
      refine hv_aload_n dX6_hasProxy_5 rfl ?_
      refine hv_geti dX6_hasProxy_6 fl_X6_33 (by first | rfl | assumption) rfl ?_
      refine hv_icmp_ge (tgt := 36) dX6_hasProxy_9 (by decide) (fun c_9 => absurd c_9 ((by rw [hs5]; exact nI_ge (by omega) (by omega)))) (fun c_9 => ?_)
      refine hv_iload_n dX6_hasProxy_12 rfl ?_
      refine hv_aload_n dX6_hasProxy_13 rfl ?_
      refine hv_getr dX6_hasProxy_14 fl_X6_24 (by first | rfl | assumption) rfl (by first | rfl | assumption) ?_
      refine hv_iload_n dX6_hasProxy_17 rfl ?_
      refine hv_iald dX6_hasProxy_18 (by first | rfl | assumption) rfl (by first | assumption | omega) (by first | decide | assumption) ?_
      refine hv_iload_n dX6_hasProxy_19 rfl ?_
      refine hv_icmp_ne (tgt := 27) dX6_hasProxy_20 (by decide) (fun c_20 => ?_) (fun c_20 => ?_)
      · have hq20 : (0 : Int32) = bI (decide (σ 16 i = a)) := by rw [decide_eq_false c_20]; rfl
        refine hv_iconst (v := 0) dX6_hasProxy_27 (by decide) ?_
        rw [hq20]
        refine hv_ior dX6_hasProxy_28 ?_
        rw [hz]
        refine hv_istore_n dX6_hasProxy_29 rfl rfl ?_
        refine hv_iinc dX6_hasProxy_30 rfl (nI_1 i) rfl rfl ?_
        refine hv_goto (tgt := 4) dX6_hasProxy_33 (by decide) ?_
        exact ih (i + 1) (by omega)
      · have hq20 : (1 : Int32) = bI (decide (σ 16 i = a)) := by rw [decide_eq_true c_20]; rfl
        refine hv_iconst (v := 1) dX6_hasProxy_23 (by decide) ?_
        refine hv_goto (tgt := 28) dX6_hasProxy_24 (by decide) ?_
        rw [hq20]
        refine hv_ior dX6_hasProxy_28 ?_
        rw [hz]
        refine hv_istore_n dX6_hasProxy_29 rfl rfl ?_
        refine hv_iinc dX6_hasProxy_30 rfl (nI_1 i) rfl rfl ?_
        refine hv_goto (tgt := 4) dX6_hasProxy_33 (by decide) ?_
        exact ih (i + 1) (by omega)
  refine hv_iconst (v := 0) dX6_hasProxy_0 (by decide) ?_
  refine hv_istore_n dX6_hasProxy_1 rfl rfl ?_
  refine hv_iconst (v := 0) dX6_hasProxy_2 (by decide) ?_
  refine hv_istore_n dX6_hasProxy_3 rfl rfl ?_
  exact loop h 0 (by omega)
theorem c_undo0 (hn : σ 17 4 = nI 0) : hCal G (m_X11_undo (hEq (some (.int 0)) (rr 38 51 x y) σ τ)) [.ref (hgA G 0)] shp (rr 38 51 x y) σ τ := by
  refine hv_enter pn_X11 rfl ?_
  refine hv_aload_n dX11_undo_0 rfl ?_
  refine hv_getr dX11_undo_1 fl_X11_51 (by first | rfl | assumption) rfl (by first | rfl | assumption) ?_
  refine hv_aload_n dX11_undo_4 rfl ?_
  refine hv_getr dX11_undo_5 fl_X11_44 (by first | rfl | assumption) rfl (by first | rfl | assumption) ?_
  refine hv_cv1 (c_bringBack0 hn) dX11_undo_8 ml_X11_230 mk_X5_bringBack (by first | rfl | assumption) rfl rfl rfl rfl rfl ?_
  rintro _ _ _ _ ⟨rfl, rfl, rfl, rfl⟩
  refine hv_zret dX11_undo_11 rfl (by first | exact Or.inl rfl | exact Or.inr rfl | assumption) ?_
  exact ⟨rfl, rfl, rfl, rfl⟩
theorem c_undo {o n : Nat} (ho : σ 17 3 = nI o) (ho40 : o < 40) (hn : σ 17 4 = nI (n + 1)) (hn40 : n < 40) : hCal G (m_X11_undo (hQp [11, 12, 13, 14, 15, 16, 17] (some (.int 1)) (rr 38 51 x y) σ τ (fun σ' => pRow (σ 18) ((o + n) % 40 * 38) σ' ∧ σ' 17 3 = nI o ∧ σ' 17 4 = nI n))) [.ref (hgA G 0)] shp (rr 38 51 x y) σ τ := by
  refine hv_enter pn_X11 rfl ?_
  refine hv_aload_n dX11_undo_0 rfl ?_
  refine hv_getr dX11_undo_1 fl_X11_51 (by first | rfl | assumption) rfl (by first | rfl | assumption) ?_
  refine hv_aload_n dX11_undo_4 rfl ?_
  refine hv_getr dX11_undo_5 fl_X11_44 (by first | rfl | assumption) rfl (by first | rfl | assumption) ?_
  refine hv_cv1 (c_bringBack ho ho40 hn hn40) dX11_undo_8 ml_X11_230 mk_X5_bringBack (by first | rfl | assumption) rfl rfl rfl rfl rfl ?_
  rintro _ _ σ1 _ ⟨rfl, rfl, rfl, hq1, hq2⟩
  refine hv_zret dX11_undo_11 rfl (by first | exact Or.inl rfl | exact Or.inr rfl | assumption) ?_
  exact ⟨rfl, rfl, rfl, hq1, hq2⟩
theorem c_hold0 {sl : Int32} (hs : sl < 0 ∨ 3 ≤ sl) : hCal G (m_X11_hold (hEq (some (.int 0)) (rr 38 51 x y) σ τ)) [.ref (hgA G 0), .int sl] shp (rr 38 51 x y) σ τ := by
  refine hv_enter pn_X11 rfl ?_
  refine hv_aload_n dX11_hold_0 rfl ?_
  refine hv_getr dX11_hold_1 fl_X11_51 (by first | rfl | assumption) rfl (by first | rfl | assumption) ?_
  refine hv_iload_n dX11_hold_4 rfl ?_
  refine hv_aload_n dX11_hold_5 rfl ?_
  refine hv_getr dX11_hold_6 fl_X11_44 (by first | rfl | assumption) rfl (by first | rfl | assumption) ?_
  refine hv_cv2 (c_store0 hs) dX11_hold_9 ml_X11_354 mk_X5_store (by first | rfl | assumption) rfl rfl rfl rfl rfl ?_
  rintro _ _ _ _ ⟨rfl, rfl, rfl, rfl⟩
  refine hv_zret dX11_hold_12 rfl (by first | exact Or.inl rfl | exact Or.inr rfl | assumption) ?_
  exact ⟨rfl, rfl, rfl, rfl⟩
theorem c_hold {s : Nat} (hs : s < 3) : hCal G (m_X11_hold (hQp [19, 20] (some (.int 1)) (rr 38 51 x y) σ τ (fun σ' => pRow (σ' 19) (s * 38) σ ∧ (∀ j, j < s * 38 ∨ s * 38 + 38 ≤ j → σ' 19 j = σ 19 j) ∧ σ' 20 = upd (σ 20) s 1))) [.ref (hgA G 0), .int (nI s)] shp (rr 38 51 x y) σ τ := by
  refine hv_enter pn_X11 rfl ?_
  refine hv_aload_n dX11_hold_0 rfl ?_
  refine hv_getr dX11_hold_1 fl_X11_51 (by first | rfl | assumption) rfl (by first | rfl | assumption) ?_
  refine hv_iload_n dX11_hold_4 rfl ?_
  refine hv_aload_n dX11_hold_5 rfl ?_
  refine hv_getr dX11_hold_6 fl_X11_44 (by first | rfl | assumption) rfl (by first | rfl | assumption) ?_
  refine hv_cv2 (c_store hs) dX11_hold_9 ml_X11_354 mk_X5_store (by first | rfl | assumption) rfl rfl rfl rfl rfl ?_
  rintro _ _ σ1 _ ⟨rfl, rfl, rfl, hq1, hq2⟩
  refine hv_zret dX11_hold_12 rfl (by first | exact Or.inl rfl | exact Or.inr rfl | assumption) ?_
  exact ⟨rfl, rfl, rfl, hq1, hq2⟩
theorem c_restore0 {sl : Int32} (hs : sl < 0 ∨ 3 ≤ sl) : hCal G (m_X11_restore (hEq (some (.int 0)) (rr 38 51 x y) σ τ)) [.ref (hgA G 0), .int sl] shp (rr 38 51 x y) σ τ := by
  refine hv_enter pn_X11 rfl ?_
  refine hv_aload_n dX11_restore_0 rfl ?_
  refine hv_getr dX11_restore_1 fl_X11_51 (by first | rfl | assumption) rfl (by first | rfl | assumption) ?_
  refine hv_iload_n dX11_restore_4 rfl ?_
  refine hv_aload_n dX11_restore_5 rfl ?_
  refine hv_getr dX11_restore_6 fl_X11_44 (by first | rfl | assumption) rfl (by first | rfl | assumption) ?_
  refine hv_cv2 (c_fetch0 hs) dX11_restore_9 ml_X11_358 mk_X5_fetch (by first | rfl | assumption) rfl rfl rfl rfl rfl ?_
  rintro _ _ _ _ ⟨rfl, rfl, rfl, rfl⟩
  refine hv_zret dX11_restore_12 rfl (by first | exact Or.inl rfl | exact Or.inr rfl | assumption) ?_
  exact ⟨rfl, rfl, rfl, rfl⟩
theorem c_restore1 {s : Nat} (hs : s < 3) (hh : σ 20 s = 0) : hCal G (m_X11_restore (hEq (some (.int 0)) (rr 38 51 x y) σ τ)) [.ref (hgA G 0), .int (nI s)] shp (rr 38 51 x y) σ τ := by
  refine hv_enter pn_X11 rfl ?_
  refine hv_aload_n dX11_restore_0 rfl ?_
  refine hv_getr dX11_restore_1 fl_X11_51 (by first | rfl | assumption) rfl (by first | rfl | assumption) ?_
  refine hv_iload_n dX11_restore_4 rfl ?_
  refine hv_aload_n dX11_restore_5 rfl ?_
  refine hv_getr dX11_restore_6 fl_X11_44 (by first | rfl | assumption) rfl (by first | rfl | assumption) ?_
  refine hv_cv2 (c_fetch1 hs hh) dX11_restore_9 ml_X11_358 mk_X5_fetch (by first | rfl | assumption) rfl rfl rfl rfl rfl ?_
  rintro _ _ _ _ ⟨rfl, rfl, rfl, rfl⟩
  refine hv_zret dX11_restore_12 rfl (by first | exact Or.inl rfl | exact Or.inr rfl | assumption) ?_
  exact ⟨rfl, rfl, rfl, rfl⟩
theorem c_restore {s : Nat} (hs : s < 3) (hh : ¬ σ 20 s = 0) : hCal G (m_X11_restore (hQp [11, 12, 13, 14, 15, 16, 17] (some (.int 1)) (rr 38 51 x y) σ τ (fun σ' => pRow (σ 19) (s * 38) σ' ∧ σ' 17 3 = σ 17 3 ∧ σ' 17 4 = 0))) [.ref (hgA G 0), .int (nI s)] shp (rr 38 51 x y) σ τ := by
  refine hv_enter pn_X11 rfl ?_
  refine hv_aload_n dX11_restore_0 rfl ?_
  refine hv_getr dX11_restore_1 fl_X11_51 (by first | rfl | assumption) rfl (by first | rfl | assumption) ?_
  refine hv_iload_n dX11_restore_4 rfl ?_
  refine hv_aload_n dX11_restore_5 rfl ?_
  refine hv_getr dX11_restore_6 fl_X11_44 (by first | rfl | assumption) rfl (by first | rfl | assumption) ?_
  refine hv_cv2 (c_fetch hs hh) dX11_restore_9 ml_X11_358 mk_X5_fetch (by first | rfl | assumption) rfl rfl rfl rfl rfl ?_
  rintro _ _ σ1 _ ⟨rfl, rfl, rfl, hq1, hq2⟩
  refine hv_zret dX11_restore_12 rfl (by first | exact Or.inl rfl | exact Or.inr rfl | assumption) ?_
  exact ⟨rfl, rfl, rfl, hq1, hq2⟩
theorem c_place {r : hR} : hCal G (m_X11_place (hEq (some (.int (σ 0 11))) r σ τ)) [.ref (hgA G 0)] shp r σ τ := by
  refine hv_enter pn_X11 rfl ?_
  refine hv_aload_n dX11_place_0 rfl ?_
  refine hv_geti dX11_place_1 fl_X11_88 (by first | rfl | assumption) rfl ?_
  refine hv_iret dX11_place_4 rfl ?_
  exact ⟨rfl, rfl, rfl, rfl⟩
theorem c_back {len : Nat} {n : Int32} (hln : σ 1 1 = nI len) (hl2 : len ≤ 2000) : hCal G (m_X11_back (fun v r' σ' τ' => rr 38 51 x y = r' ∧ τ = τ' ∧ ((¬ inI 0 (nI len) n = true ∧ v = some (.int (-1)) ∧ σ = σ') ∨ (∃ i, i ≤ len ∧ n = nI i ∧ v = some (.int (nI (len - i))) ∧ σ' = va_up σ 1 (upd (σ 1) 1 (nI (len - i))))))) [.ref (hgA G 0), .int n] shp (rr 38 51 x y) σ τ := by
  refine hv_enter pn_X11 rfl ?_
  refine hv_iload_n dX11_back_0 rfl ?_
  refine hv_if_lt (tgt := 15) dX11_back_1 (by decide) (fun c_1 => ?_) (fun c_1 => ?_)
  · refine hv_iconst (v := -1) dX11_back_15 (by decide) ?_
    refine hv_iret dX11_back_16 rfl ?_
    first
      | exact ⟨rfl, rfl, Or.inl ⟨fun qq => c_12 (of_decide_eq_true qq).2, rfl, rfl⟩⟩
      | exact ⟨rfl, rfl, Or.inl ⟨fun qq => Int32.not_lt.mpr (of_decide_eq_true qq).1 c_1, rfl, rfl⟩⟩
  · refine hv_iload_n dX11_back_4 rfl ?_
    refine hv_aload_n dX11_back_5 rfl ?_
    refine hv_getr dX11_back_6 fl_X11_10 (by first | rfl | assumption) rfl (by first | rfl | assumption) ?_
    refine hv_geti dX11_back_9 fl_X11_104 (by first | rfl | assumption) rfl ?_
    rw [hln]
    refine hv_icmp_le (tgt := 17) dX11_back_12 (by decide) (fun c_12 => ?_) (fun c_12 => ?_)
    · have hin : inI 0 (nI len) n = true := decide_eq_true ⟨Int32.not_lt.mp c_1, c_12⟩
      obtain ⟨i, hi, rfl⟩ : ∃ i, i ≤ len ∧ n = nI i := by
        rcases pk_ix n (n := len + 1) (by omega) with qq | qq | ⟨i, hi, rfl⟩
        · exact absurd qq c_1
        · exact absurd (Int32.le_trans qq c_12) (nI_ge (a := len) (by omega) (by omega))
        · exact ⟨i, by omega, rfl⟩
      refine hv_aload_n dX11_back_17 rfl ?_
      refine hv_getr dX11_back_18 fl_X11_10 (by first | rfl | assumption) rfl (by first | rfl | assumption) ?_
      refine hv_dup dX11_back_21 rfl ?_
      refine hv_geti dX11_back_22 fl_X11_104 (by first | rfl | assumption) rfl ?_
      rw [hln]
      refine hv_iload_n dX11_back_25 rfl ?_
      refine hv_isub dX11_back_26 ?_
      rw [pk_sub hi]
      refine hv_puti dX11_back_27 fl_X11_104 (by first | rfl | assumption) rfl rfl rfl ?_
      refine hv_aload_n dX11_back_30 rfl ?_
      refine hv_getr dX11_back_31 fl_X11_10 (by first | rfl | assumption) rfl (by first | rfl | assumption) ?_
      refine hv_geti dX11_back_34 fl_X11_104 (by first | rfl | assumption) rfl ?_
      refine hv_iret dX11_back_37 rfl ?_
      exact ⟨rfl, rfl, Or.inr ⟨i, hi, rfl, by rw [hup_eq, pk_us], rfl⟩⟩
    · refine hv_iconst (v := -1) dX11_back_15 (by decide) ?_
      refine hv_iret dX11_back_16 rfl ?_
      first
        | exact ⟨rfl, rfl, Or.inl ⟨fun qq => c_12 (of_decide_eq_true qq).2, rfl, rfl⟩⟩
        | exact ⟨rfl, rfl, Or.inl ⟨fun qq => Int32.not_lt.mpr (of_decide_eq_true qq).1 c_1, rfl, rfl⟩⟩
end S28

