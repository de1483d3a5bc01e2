abbrev m_X12_hasProxy (Q : hPo) : hMe := (hrm 0, 0, 0, yX12_hasProxy, cX12_hasProxy, 3, (some FieldType.boolean), shp, none, Q)
abbrev m_X12_proxy (Q : hPo) : hMe := (hrm 2, 0, 0, yX12_proxy, cX12_proxy, 4, (some FieldType.boolean), shp, none, Q)
abbrev m_X12_days (Q : hPo) : hMe := (hrm 6, 0, 0, yX12_days, cX12_days, 2, (some FieldType.int), shp, none, Q)
abbrev m_X12_undo (Q : hPo) : hMe := (hrm 0, 0, 0, yX12_undo, cX12_undo, 2, (some FieldType.boolean), shp, none, Q)
abbrev m_X12_hold (Q : hPo) : hMe := (hrm 1, 0, 0, yX12_hold, cX12_hold, 3, (some FieldType.boolean), shp, none, Q)
abbrev m_X12_restore (Q : hPo) : hMe := (hrm 1, 0, 0, yX12_restore, cX12_restore, 3, (some FieldType.boolean), shp, none, Q)
abbrev m_X12_count (Q : hPo) : hMe := (hrm 6, 0, 0, yX12_count, cX12_count, 2, (some FieldType.int), shp, none, Q)
abbrev m_X12_feed (Q : hPo) : hMe := (hrm 1, 0, 0, yX12_feed, cX12_feed, 6, (some FieldType.int), shp, none, Q)
abbrev m_X12_put (Q : hPo) : hMe := (hrm 0, 0, 0, yX12_put, cX12_put, 3, (none : Option FieldType), shp, none, Q)
abbrev m_X12_back (Q : hPo) : hMe := (hrm 0, 0, 0, yX12_back, cX12_back, 2, (some FieldType.int), shp, none, Q)
abbrev m_X12_place (Q : hPo) : hMe := (hrm 0, 0, 0, yX12_place, cX12_place, 1, (some FieldType.int), shp, none, Q)
theorem hup_up {α : Type} {f : Nat → α} {k : Nat} {v w : α} : va_up (va_up f k v) k w = va_up f k w := by
  funext j
  unfold va_up
  by_cases h : j = k
  · rw [if_pos h, if_pos h]
  · rw [if_neg h, if_neg h, if_neg h]
theorem sal_eq {n p : Int32} (hn : inI 1 99 n = true) (hp0 : 0 ≤ p) (hp : p ≤ 9999) : (n ≤ p → (0 : Int32) = hmax 0 (n - p)) ∧ (¬ n ≤ p → n - p = hmax 0 (n - p)) := by
  have hn2 := of_decide_eq_true hn
  rw [i32_le] at hp0 hp
  rw [i32_le, i32_le] at hn2
  rw [show (0 : Int32).toInt = 0 from rfl] at hp0
  rw [show (9999 : Int32).toInt = 9999 from rfl] at hp
  rw [show (1 : Int32).toInt = 1 from rfl, show (99 : Int32).toInt = 99 from rfl] at hn2
  have hs : (n - p).toInt = n.toInt - p.toInt := s32_sub (by omega) (by omega)
  unfold hmax
  constructor
  · intro h
    rw [i32_le] at h
    rw [if_neg (by rw [Int32.lt_iff_toInt_lt, hs, show (0 : Int32).toInt = 0 from rfl]; omega)]
  · intro h
    rw [i32_le] at h
    rw [if_pos (by rw [Int32.lt_iff_toInt_lt, hs, show (0 : Int32).toInt = 0 from rfl]; omega)]
def fBuy (f : hF) (i o : Nat) (n s c : Int32) : hF := upd (upd (upd (upd (upd (upd f o (f o - n)) (14 + o) (f (14 + o) - s)) i (f i + n)) (14 + i) (f (14 + i) + s)) (7 + i) (f (7 + i) - c)) (7 + o) (f (7 + o) + c)
theorem fHasP_true {f : hF} {a : Int32} {i : Nat} (hf : f i = a) : ∀ n, i < n → fHasP f a n = true
  | 0, h => absurd h (by omega)
  | n + 1, h => by
    unfold fHasP
    by_cases e : i = n
    · subst e; rw [decide_eq_true hf, Bool.or_true]
    · rw [fHasP_true hf n (by omega)]; rfl
section S60
variable {G : hGl} {σ : hS} {τ : hT} {x y : Option Nat}
theorem d_buy {L h nn : Nat} {LF : Nat → hF → Int32} {a b n P : Int32} (ok : okR σ L h LF) (hn : σ 64 57 = nI nn) (hn40 : nn ≤ 40) (hP : P = fPrice (twM σ L h LF) (dyM σ 98)) : hCal G (m_X12_buy (fun v r' σ' τ' => rr 38 51 x y = r' ∧ τ = τ' ∧ ((¬ (isH h a = true ∧ isH h b = true ∧ ¬ a = b ∧ inI 1 99 n = true) ∧ v = some (.int (-1)) ∧ σ = σ') ∨ (∃ i j, i < h ∧ j < h ∧ a = nI i ∧ b = nI j ∧ ¬ i = j ∧ inI 1 99 n = true ∧ (σ 98 j < n ∨ σ 98 (7 + i) < n * P ∨ 9999 < σ 98 i + n ∨ 9999 < σ 98 (7 + j) + n * P) ∧ v = some (.int (-2)) ∧ (∀ k, k ∉ xRq → σ' k = σ k) ∧ k64 σ σ') ∨ (∃ i j, i < h ∧ j < h ∧ a = nI i ∧ b = nI j ∧ ¬ i = j ∧ inI 1 99 n = true ∧ ¬ (σ 98 j < n ∨ σ 98 (7 + i) < n * P ∨ 9999 < σ 98 i + n ∨ 9999 < σ 98 (7 + j) + n * P) ∧ v = some (.int (n * P)) ∧ (∀ q, q < 37 → σ' 98 q = fBuy (σ 98) i j n (hmax 0 (n - (σ 98 j - σ 98 (14 + j)))) (n * P) q) ∧ pDo nn σ σ')))) [.ref (hgA G 64), .int a, .int b, .int n] shp (rr 38 51 x y) σ τ := by
  have k2 := ok.1.2.2.2.1
  refine hv_enter pn_X12 rfl ?_
  refine hv_aload_n dX12_buy_0 rfl ?_
  refine hv_iload_n dX12_buy_1 rfl ?_
  refine hv_cv1 (d_isHouse ok.1.1 ok.1.2.1 ok.1.2.2.1 k2) dX12_buy_2 ml_X12_370 mk_X12_isHouse (by first | rfl | assumption) rfl rfl rfl rfl rfl ?_
  rintro _ _ _ _ ⟨rfl, rfl, rfl, rfl⟩
  refine hv_if_eq (tgt := 28) dX12_buy_5 (by decide) (fun c_5 => ?_) (fun c_5 => ?_)
  · refine hv_iconst (v := -1) dX12_buy_28 (by decide) ?_
    refine hv_iret dX12_buy_29 rfl ?_
    first
      | exact ⟨rfl, rfl, Or.inl ⟨fun qq => by rw [bI_0 c_25] at qq; exact absurd qq.2.2.2 (by decide), rfl, rfl⟩⟩
      | exact ⟨rfl, rfl, Or.inl ⟨fun qq => qq.2.2.1 c_18, rfl, rfl⟩⟩
      | exact ⟨rfl, rfl, Or.inl ⟨fun qq => by rw [bI_0 c_13] at qq; exact absurd qq.2.1 (by decide), rfl, rfl⟩⟩
      | exact ⟨rfl, rfl, Or.inl ⟨fun qq => by rw [bI_0 c_5] at qq; exact absurd qq.1 (by decide), rfl, rfl⟩⟩
  · refine hv_aload_n dX12_buy_8 rfl ?_
    refine hv_iload_n dX12_buy_9 rfl ?_
    refine hv_cv1 (d_isHouse ok.1.1 ok.1.2.1 ok.1.2.2.1 k2) dX12_buy_10 ml_X12_370 mk_X12_isHouse (by first | rfl | assumption) rfl rfl rfl rfl rfl ?_
    rintro _ _ _ _ ⟨rfl, rfl, rfl, rfl⟩
    refine hv_if_eq (tgt := 28) dX12_buy_13 (by decide) (fun c_13 => ?_) (fun c_13 => ?_)
    · refine hv_iconst (v := -1) dX12_buy_28 (by decide) ?_
      refine hv_iret dX12_buy_29 rfl ?_
      first
        | exact ⟨rfl, rfl, Or.inl ⟨fun qq => by rw [bI_0 c_25] at qq; exact absurd qq.2.2.2 (by decide), rfl, rfl⟩⟩
        | exact ⟨rfl, rfl, Or.inl ⟨fun qq => qq.2.2.1 c_18, rfl, rfl⟩⟩
        | exact ⟨rfl, rfl, Or.inl ⟨fun qq => by rw [bI_0 c_13] at qq; exact absurd qq.2.1 (by decide), rfl, rfl⟩⟩
        | exact ⟨rfl, rfl, Or.inl ⟨fun qq => by rw [bI_0 c_5] at qq; exact absurd qq.1 (by decide), rfl, rfl⟩⟩
    · refine hv_iload_n dX12_buy_16 rfl ?_
      refine hv_iload_n dX12_buy_17 rfl ?_
      refine hv_icmp_eq (tgt := 28) dX12_buy_18 (by decide) (fun c_18 => ?_) (fun c_18 => ?_)
      · refine hv_iconst (v := -1) dX12_buy_28 (by decide) ?_
        refine hv_iret dX12_buy_29 rfl ?_
        first
          | exact ⟨rfl, rfl, Or.inl ⟨fun qq => by rw [bI_0 c_25] at qq; exact absurd qq.2.2.2 (by decide), rfl, rfl⟩⟩
          | exact ⟨rfl, rfl, Or.inl ⟨fun qq => qq.2.2.1 c_18, rfl, rfl⟩⟩
          | exact ⟨rfl, rfl, Or.inl ⟨fun qq => by rw [bI_0 c_13] at qq; exact absurd qq.2.1 (by decide), rfl, rfl⟩⟩
          | exact ⟨rfl, rfl, Or.inl ⟨fun qq => by rw [bI_0 c_5] at qq; exact absurd qq.1 (by decide), rfl, rfl⟩⟩
      · refine hv_iload_n dX12_buy_21 rfl ?_
        refine hv_cs1 (d_isSome) dX12_buy_22 ml_X12_382 mk_X12_isSome rfl rfl rfl ?_
        rintro _ _ _ _ ⟨rfl, rfl, rfl, rfl⟩
        refine hv_if_ne (tgt := 30) dX12_buy_25 (by decide) (fun c_25 => ?_) (fun c_25 => ?_)
        · obtain ⟨i, hi, rfl⟩ := isH_ix k2 (bI_1 c_5)
          obtain ⟨j, hj, rfl⟩ := isH_ix k2 (bI_1 c_13)
          have hij : ¬ i = j := fun qq => c_18 (by rw [qq])
          refine hv_aload_n dX12_buy_30 rfl ?_
          refine hv_cv0 (d_copies ok.1.1 ok.1.2.1) dX12_buy_31 ml_X12_373 mk_X12_copies (by first | rfl | assumption) rfl rfl rfl rfl rfl ?_
          rintro _ _ σ1 _ ⟨rfl, rfl, rfl, q1, q2, q3⟩
          have qc := cp_of ok q1 q2 q3
          have c8 := qc.2.2.2.2.2.2.2
          refine hv_iload_n dX12_buy_34 rfl ?_
          refine hv_aload_n dX12_buy_35 rfl ?_
          refine hv_cv0 (d_priceNow qc.1 qc.2.1) dX12_buy_36 ml_X12_379 mk_X12_priceNow (by first | rfl | assumption) rfl rfl rfl rfl rfl ?_
          rintro _ _ σ2 _ ⟨rfl, rfl, rfl, q4, q5⟩
          rw [show fPrice (twM σ1 L h LF) (dyM σ1 99) = P by rw [hP, qc.2.2.2.2.1]; exact fPrice_congr (tEqM ok.1) (qc.2.2.2.1.mono k2)]
          have e99 : ∀ q, q < 37 → σ2 99 q = σ 98 q := fun q hq => by rw [q4 99 (by decide)]; exact c8 q hq
          have qR : ∀ k, k ∉ xRq → σ2 k = σ k := off_tr q1 q4 (by decide) (by decide)
          have qk : k64 σ σ2 := fun q j1 j2 j3 => (q5 q j1).trans (qc.2.2.2.2.2.2.1 q j2)
          refine hv_imul dX12_buy_39 ?_
          refine hv_istore dX12_buy_40 rfl rfl ?_
          refine hv_aload_n dX12_buy_42 rfl ?_
          refine hv_getr dX12_buy_43 fl_X12_122 (by first | rfl | assumption) rfl (by first | rfl | assumption) ?_
          refine hv_iload_n dX12_buy_46 rfl ?_
          refine hv_iald dX12_buy_47 (by first | rfl | assumption) rfl (by first | assumption | omega) (by first | decide | assumption) ?_
          rw [e99 j (by omega)]
          refine hv_iload_n dX12_buy_48 rfl ?_
          refine hv_icmp_lt (tgt := 98) dX12_buy_49 (by decide) (fun c_49 => ?_) (fun c_49 => ?_)
          · refine hv_bipush (v := -2) dX12_buy_98 (by decide) ?_
            refine hv_iret dX12_buy_100 rfl ?_
            first
              | exact ⟨rfl, rfl, Or.inr (Or.inl ⟨i, j, hi, hj, rfl, rfl, hij, bI_1 c_25, Or.inr (Or.inr (Or.inr (Int32.not_le.mp c_95))), rfl, qR, qk⟩)⟩
              | exact ⟨rfl, rfl, Or.inr (Or.inl ⟨i, j, hi, hj, rfl, rfl, hij, bI_1 c_25, Or.inr (Or.inr (Or.inl c_77)), rfl, qR, qk⟩)⟩
              | exact ⟨rfl, rfl, Or.inr (Or.inl ⟨i, j, hi, hj, rfl, rfl, hij, bI_1 c_25, Or.inr (Or.inl c_63), rfl, qR, qk⟩)⟩
              | exact ⟨rfl, rfl, Or.inr (Or.inl ⟨i, j, hi, hj, rfl, rfl, hij, bI_1 c_25, Or.inl c_49, rfl, qR, qk⟩)⟩
          · refine hv_aload_n dX12_buy_52 rfl ?_
            refine hv_getr dX12_buy_53 fl_X12_122 (by first | rfl | assumption) rfl (by first | rfl | assumption) ?_
            refine hv_bipush (v := 7) dX12_buy_56 (by decide) ?_
            refine hv_iload_n dX12_buy_58 rfl ?_
            refine hv_iadd dX12_buy_59 ?_
            refine hv_iald dX12_buy_60 (by first | rfl | assumption) (j := 7 + i) (nI_add 7 i) (by omega) (by first | decide | assumption) ?_
            rw [e99 (7 + i) (by omega)]
            refine hv_iload dX12_buy_61 rfl ?_
            refine hv_icmp_lt (tgt := 98) dX12_buy_63 (by decide) (fun c_63 => ?_) (fun c_63 => ?_)
            · refine hv_bipush (v := -2) dX12_buy_98 (by decide) ?_
              refine hv_iret dX12_buy_100 rfl ?_
              first
                | exact ⟨rfl, rfl, Or.inr (Or.inl ⟨i, j, hi, hj, rfl, rfl, hij, bI_1 c_25, Or.inr (Or.inr (Or.inr (Int32.not_le.mp c_95))), rfl, qR, qk⟩)⟩
                | exact ⟨rfl, rfl, Or.inr (Or.inl ⟨i, j, hi, hj, rfl, rfl, hij, bI_1 c_25, Or.inr (Or.inr (Or.inl c_77)), rfl, qR, qk⟩)⟩
                | exact ⟨rfl, rfl, Or.inr (Or.inl ⟨i, j, hi, hj, rfl, rfl, hij, bI_1 c_25, Or.inr (Or.inl c_63), rfl, qR, qk⟩)⟩
                | exact ⟨rfl, rfl, Or.inr (Or.inl ⟨i, j, hi, hj, rfl, rfl, hij, bI_1 c_25, Or.inl c_49, rfl, qR, qk⟩)⟩
            · refine hv_aload_n dX12_buy_66 rfl ?_
              refine hv_getr dX12_buy_67 fl_X12_122 (by first | rfl | assumption) rfl (by first | rfl | assumption) ?_
              refine hv_iload_n dX12_buy_70 rfl ?_
              refine hv_iald dX12_buy_71 (by first | rfl | assumption) rfl (by first | assumption | omega) (by first | decide | assumption) ?_
              rw [e99 i (by omega)]
              refine hv_iload_n dX12_buy_72 rfl ?_
              refine hv_iadd dX12_buy_73 ?_
              refine hv_sipush (v := 9999) dX12_buy_74 (by decide) ?_
              refine hv_icmp_gt (tgt := 98) dX12_buy_77 (by decide) (fun c_77 => ?_) (fun c_77 => ?_)
              · refine hv_bipush (v := -2) dX12_buy_98 (by decide) ?_
                refine hv_iret dX12_buy_100 rfl ?_
                first
                  | exact ⟨rfl, rfl, Or.inr (Or.inl ⟨i, j, hi, hj, rfl, rfl, hij, bI_1 c_25, Or.inr (Or.inr (Or.inr (Int32.not_le.mp c_95))), rfl, qR, qk⟩)⟩
                  | exact ⟨rfl, rfl, Or.inr (Or.inl ⟨i, j, hi, hj, rfl, rfl, hij, bI_1 c_25, Or.inr (Or.inr (Or.inl c_77)), rfl, qR, qk⟩)⟩
                  | exact ⟨rfl, rfl, Or.inr (Or.inl ⟨i, j, hi, hj, rfl, rfl, hij, bI_1 c_25, Or.inr (Or.inl c_63), rfl, qR, qk⟩)⟩
                  | exact ⟨rfl, rfl, Or.inr (Or.inl ⟨i, j, hi, hj, rfl, rfl, hij, bI_1 c_25, Or.inl c_49, rfl, qR, qk⟩)⟩
              · refine hv_aload_n dX12_buy_80 rfl ?_
                refine hv_getr dX12_buy_81 fl_X12_122 (by first | rfl | assumption) rfl (by first | rfl | assumption) ?_
                refine hv_bipush (v := 7) dX12_buy_84 (by decide) ?_
                refine hv_iload_n dX12_buy_86 rfl ?_
                refine hv_iadd dX12_buy_87 ?_
                refine hv_iald dX12_buy_88 (by first | rfl | assumption) (j := 7 + j) (nI_add 7 j) (by omega) (by first | decide | assumption) ?_
                rw [e99 (7 + j) (by omega)]
                refine hv_iload dX12_buy_89 rfl ?_
                refine hv_iadd dX12_buy_91 ?_
                refine hv_sipush (v := 9999) dX12_buy_92 (by decide) ?_
                refine hv_icmp_le (tgt := 101) dX12_buy_95 (by decide) (fun c_95 => ?_) (fun c_95 => ?_)
                · refine hv_aload_n dX12_buy_101 rfl ?_
                  refine hv_getr dX12_buy_102 fl_X12_122 (by first | rfl | assumption) rfl (by first | rfl | assumption) ?_
                  refine hv_iload_n dX12_buy_105 rfl ?_
                  refine hv_iald dX12_buy_106 (by first | rfl | assumption) rfl (by first | assumption | omega) (by first | decide | assumption) ?_
                  rw [e99 j (by omega)]
                  refine hv_aload_n dX12_buy_107 rfl ?_
                  refine hv_getr dX12_buy_108 fl_X12_122 (by first | rfl | assumption) rfl (by first | rfl | assumption) ?_
                  refine hv_bipush (v := 14) dX12_buy_111 (by decide) ?_
                  refine hv_iload_n dX12_buy_113 rfl ?_
                  refine hv_iadd dX12_buy_114 ?_
                  refine hv_iald dX12_buy_115 (by first | rfl | assumption) (j := 14 + j) (nI_add 14 j) (by omega) (by first | decide | assumption) ?_
                  rw [e99 (14 + j) (by omega)]
                  obtain ⟨S, hSm⟩ : ∃ S, hmax 0 (n - (σ 98 j - σ 98 (14 + j))) = S := ⟨_, rfl⟩
                  have hse := sal_eq (n := n) (p := σ 98 j - σ 98 (14 + j)) (bI_1 c_25) (sub_rng (ok.2.2 j hj).2.2.1 (ok.2.2 j hj).2.2.2).1 (Int32.le_trans (sub_rng (ok.2.2 j hj).2.2.1 (ok.2.2 j hj).2.2.2).2 (ok.2.2 j hj).2.1)
                  rw [hSm] at hse
                  refine hv_isub dX12_buy_116 ?_
                  refine hv_istore dX12_buy_117 rfl rfl ?_
                  refine hv_iload_n dX12_buy_119 rfl ?_
                  refine hv_iload dX12_buy_120 rfl ?_
                  refine hv_icmp_le (tgt := 132) dX12_buy_122 (by decide) (fun c_122 => ?_) (fun c_122 => ?_)
                  · have hsl := hse.1 c_122
                    refine hv_iconst (v := 0) dX12_buy_132 (by decide) ?_
                    refine hv_str (congrArg (fun z => [Value.int z]) hsl) ?_
                    refine hv_istore dX12_buy_133 rfl rfl ?_
                    refine hv_aload_n dX12_buy_135 rfl ?_
                    refine hv_getr dX12_buy_136 fl_X12_122 (by first | rfl | assumption) rfl (by first | rfl | assumption) ?_
                    refine hv_iload_n dX12_buy_139 rfl ?_
                    refine hv_dup2 dX12_buy_140 rfl rfl ?_
                    refine hv_iald dX12_buy_141 (by first | rfl | assumption) rfl (by first | assumption | omega) (by first | decide | assumption) ?_
                    rw [e99 j (by omega)]
                    refine hv_iload_n dX12_buy_142 rfl ?_
                    refine hv_isub dX12_buy_143 ?_
                    refine hv_iast dX12_buy_144 (by first | rfl | assumption) rfl (by first | assumption | omega) (by first | decide | assumption) ?_
                    refine hv_aload_n dX12_buy_145 rfl ?_
                    refine hv_getr dX12_buy_146 fl_X12_122 (by first | rfl | assumption) rfl (by first | rfl | assumption) ?_
                    refine hv_bipush (v := 14) dX12_buy_149 (by decide) ?_
                    refine hv_iload_n dX12_buy_151 rfl ?_
                    refine hv_iadd dX12_buy_152 ?_
                    refine hv_dup2 dX12_buy_153 rfl rfl ?_
                    refine hv_iald dX12_buy_154 (by first | rfl | assumption) (j := 14 + j) (nI_add 14 j) (by omega) (by first | decide | assumption) ?_
                    rw [hup_eq, pk_un (by omega), e99 (14 + j) (by omega)]
                    refine hv_iload dX12_buy_155 rfl ?_
                    refine hv_isub dX12_buy_157 ?_
                    refine hv_iast dX12_buy_158 (by first | rfl | assumption) (j := 14 + j) (nI_add 14 j) (by omega) (by first | decide | assumption) ?_
                    rw [hup_up, hup_eq]
                    refine hv_aload_n dX12_buy_159 rfl ?_
                    refine hv_getr dX12_buy_160 fl_X12_122 (by first | rfl | assumption) rfl (by first | rfl | assumption) ?_
                    refine hv_iload_n dX12_buy_163 rfl ?_
                    refine hv_dup2 dX12_buy_164 rfl rfl ?_
                    refine hv_iald dX12_buy_165 (by first | rfl | assumption) rfl (by first | assumption | omega) (by first | decide | assumption) ?_
                    rw [hup_eq, pk_un (by omega), pk_un (by omega), e99 i (by omega)]
                    refine hv_iload_n dX12_buy_166 rfl ?_
                    refine hv_iadd dX12_buy_167 ?_
                    refine hv_iast dX12_buy_168 (by first | rfl | assumption) rfl (by first | assumption | omega) (by first | decide | assumption) ?_
                    rw [hup_up, hup_eq]
                    refine hv_aload_n dX12_buy_169 rfl ?_
                    refine hv_getr dX12_buy_170 fl_X12_122 (by first | rfl | assumption) rfl (by first | rfl | assumption) ?_
                    refine hv_bipush (v := 14) dX12_buy_173 (by decide) ?_
                    refine hv_iload_n dX12_buy_175 rfl ?_
                    refine hv_iadd dX12_buy_176 ?_
                    refine hv_dup2 dX12_buy_177 rfl rfl ?_
                    refine hv_iald dX12_buy_178 (by first | rfl | assumption) (j := 14 + i) (nI_add 14 i) (by omega) (by first | decide | assumption) ?_
                    rw [hup_eq, pk_un (by omega), pk_un (by omega), pk_un (by omega), e99 (14 + i) (by omega)]
                    refine hv_iload dX12_buy_179 rfl ?_
                    refine hv_iadd dX12_buy_181 ?_
                    refine hv_iast dX12_buy_182 (by first | rfl | assumption) (j := 14 + i) (nI_add 14 i) (by omega) (by first | decide | assumption) ?_
                    rw [hup_up, hup_eq]
                    refine hv_aload_n dX12_buy_183 rfl ?_
                    refine hv_getr dX12_buy_184 fl_X12_122 (by first | rfl | assumption) rfl (by first | rfl | assumption) ?_
                    refine hv_bipush (v := 7) dX12_buy_187 (by decide) ?_
                    refine hv_iload_n dX12_buy_189 rfl ?_
                    refine hv_iadd dX12_buy_190 ?_
                    refine hv_dup2 dX12_buy_191 rfl rfl ?_
                    refine hv_iald dX12_buy_192 (by first | rfl | assumption) (j := 7 + i) (nI_add 7 i) (by omega) (by first | decide | assumption) ?_
                    rw [hup_eq, pk_un (by omega), pk_un (by omega), pk_un (by omega), pk_un (by omega), e99 (7 + i) (by omega)]
                    refine hv_iload dX12_buy_193 rfl ?_
                    refine hv_isub dX12_buy_195 ?_
                    refine hv_iast dX12_buy_196 (by first | rfl | assumption) (j := 7 + i) (nI_add 7 i) (by omega) (by first | decide | assumption) ?_
                    rw [hup_up, hup_eq]
                    refine hv_aload_n dX12_buy_197 rfl ?_
                    refine hv_getr dX12_buy_198 fl_X12_122 (by first | rfl | assumption) rfl (by first | rfl | assumption) ?_
                    refine hv_bipush (v := 7) dX12_buy_201 (by decide) ?_
                    refine hv_iload_n dX12_buy_203 rfl ?_
                    refine hv_iadd dX12_buy_204 ?_
                    refine hv_dup2 dX12_buy_205 rfl rfl ?_
                    refine hv_iald dX12_buy_206 (by first | rfl | assumption) (j := 7 + j) (nI_add 7 j) (by omega) (by first | decide | assumption) ?_
                    rw [hup_eq, pk_un (by omega), pk_un (by omega), pk_un (by omega), pk_un (by omega), pk_un (by omega), e99 (7 + j) (by omega)]
                    refine hv_iload dX12_buy_207 rfl ?_
                    refine hv_iadd dX12_buy_209 ?_
                    refine hv_iast dX12_buy_210 (by first | rfl | assumption) (j := 7 + j) (nI_add 7 j) (by omega) (by first | decide | assumption) ?_
                    rw [hup_up, hup_eq]
                    obtain ⟨σ4, hσ4⟩ : ∃ σ4 : hS, va_up σ2 99 (upd (upd (upd (upd (upd (upd (σ2 99) j (σ 98 j - n)) (14 + j) (σ 98 (14 + j) - S)) i (σ 98 i + n)) (14 + i) (σ 98 (14 + i) + S)) (7 + i) (σ 98 (7 + i) - n * P)) (7 + j) (σ 98 (7 + j) + n * P)) = σ4 := ⟨_, rfl⟩
                    rw [hσ4]
                    have p1 : ∀ k, k ∉ [99] → σ4 k = σ2 k := fun k hk => by rw [← hσ4, hva_ne (by simpa using hk)]
                    have p2 : ∀ q, q < 37 → σ4 99 q = fBuy (σ 98) i j n S (n * P) q := by rw [← hσ4, hup_eq]; exact upd_37 (upd_37 (upd_37 (upd_37 (upd_37 (upd_37 e99 rfl) rfl) rfl) rfl) rfl) rfl
                    have p3 : ∀ k, k ∉ xMd → σ4 k = σ1 k := off_tr q4 p1 (by decide) (by decide)
                    refine hv_aload_n dX12_buy_211 rfl ?_
                    refine hv_cv0 (d_records (nn := nn) (by rw [p1 64 (by decide), q5 57 (by decide), qc.2.2.2.2.2.2.1 57 (by decide)]; exact hn) hn40) dX12_buy_212 ml_X12_385 mk_X12_records (by first | rfl | assumption) rfl rfl rfl rfl rfl ?_
                    rintro _ _ σ5 _ ⟨rfl, rfl, rfl, r1, r2, r3, r4⟩
                    refine hv_iload dX12_buy_215 rfl ?_
                    refine hv_iret dX12_buy_217 rfl ?_
                    refine ⟨rfl, rfl, Or.inr (Or.inr ⟨i, j, hi, hj, rfl, rfl, hij, bI_1 c_25, ?_, rfl, fun q hq => ?_, ?_⟩)⟩
                    · rintro (qq | qq | qq | qq)
                      · exact c_49 qq
                      · exact c_63 qq
                      · exact c_77 qq
                      · exact Int32.not_lt.mpr c_95 qq
                    · rw [r2 q hq, p2 q hq, hSm]
                    · exact pDo_of q1 qc p3 (fun q hq => by rw [p1 64 (by decide)]; exact q5 q hq) r1 r3 r4
                  · have hsl := hse.2 c_122
                    refine hv_iload_n dX12_buy_125 rfl ?_
                    refine hv_iload dX12_buy_126 rfl ?_
                    refine hv_isub dX12_buy_128 ?_
                    refine hv_goto (tgt := 133) dX12_buy_129 (by decide) ?_
                    refine hv_str (congrArg (fun z => [Value.int z]) hsl) ?_
                    refine hv_istore dX12_buy_133 rfl rfl ?_
                    refine hv_aload_n dX12_buy_135 rfl ?_
                    refine hv_getr dX12_buy_136 fl_X12_122 (by first | rfl | assumption) rfl (by first | rfl | assumption) ?_
                    refine hv_iload_n dX12_buy_139 rfl ?_
                    refine hv_dup2 dX12_buy_140 rfl rfl ?_
                    refine hv_iald dX12_buy_141 (by first | rfl | assumption) rfl (by first | assumption | omega) (by first | decide | assumption) ?_
                    rw [e99 j (by omega)]
                    refine hv_iload_n dX12_buy_142 rfl ?_
                    refine hv_isub dX12_buy_143 ?_
                    refine hv_iast dX12_buy_144 (by first | rfl | assumption) rfl (by first | assumption | omega) (by first | decide | assumption) ?_
                    refine hv_aload_n dX12_buy_145 rfl ?_
                    refine hv_getr dX12_buy_146 fl_X12_122 (by first | rfl | assumption) rfl (by first | rfl | assumption) ?_
                    refine hv_bipush (v := 14) dX12_buy_149 (by decide) ?_
                    refine hv_iload_n dX12_buy_151 rfl ?_
                    refine hv_iadd dX12_buy_152 ?_
                    refine hv_dup2 dX12_buy_153 rfl rfl ?_
                    refine hv_iald dX12_buy_154 (by first | rfl | assumption) (j := 14 + j) (nI_add 14 j) (by omega) (by first | decide | assumption) ?_
                    rw [hup_eq, pk_un (by omega), e99 (14 + j) (by omega)]
                    refine hv_iload dX12_buy_155 rfl ?_
                    refine hv_isub dX12_buy_157 ?_
                    refine hv_iast dX12_buy_158 (by first | rfl | assumption) (j := 14 + j) (nI_add 14 j) (by omega) (by first | decide | assumption) ?_
                    rw [hup_up, hup_eq]
                    refine hv_aload_n dX12_buy_159 rfl ?_
                    refine hv_getr dX12_buy_160 fl_X12_122 (by first | rfl | assumption) rfl (by first | rfl | assumption) ?_
                    refine hv_iload_n dX12_buy_163 rfl ?_
                    refine hv_dup2 dX12_buy_164 rfl rfl ?_
                    refine hv_iald dX12_buy_165 (by first | rfl | assumption) rfl (by first | assumption | omega) (by first | decide | assumption) ?_
                    rw [hup_eq, pk_un (by omega), pk_un (by omega), e99 i (by omega)]
                    refine hv_iload_n dX12_buy_166 rfl ?_
                    refine hv_iadd dX12_buy_167 ?_
                    refine hv_iast dX12_buy_168 (by first | rfl | assumption) rfl (by first | assumption | omega) (by first | decide | assumption) ?_
                    rw [hup_up, hup_eq]
                    refine hv_aload_n dX12_buy_169 rfl ?_
                    refine hv_getr dX12_buy_170 fl_X12_122 (by first | rfl | assumption) rfl (by first | rfl | assumption) ?_
                    refine hv_bipush (v := 14) dX12_buy_173 (by decide) ?_
                    refine hv_iload_n dX12_buy_175 rfl ?_
                    refine hv_iadd dX12_buy_176 ?_
                    refine hv_dup2 dX12_buy_177 rfl rfl ?_
                    refine hv_iald dX12_buy_178 (by first | rfl | assumption) (j := 14 + i) (nI_add 14 i) (by omega) (by first | decide | assumption) ?_
                    rw [hup_eq, pk_un (by omega), pk_un (by omega), pk_un (by omega), e99 (14 + i) (by omega)]
                    refine hv_iload dX12_buy_179 rfl ?_
                    refine hv_iadd dX12_buy_181 ?_
                    refine hv_iast dX12_buy_182 (by first | rfl | assumption) (j := 14 + i) (nI_add 14 i) (by omega) (by first | decide | assumption) ?_
                    rw [hup_up, hup_eq]
                    refine hv_aload_n dX12_buy_183 rfl ?_
                    refine hv_getr dX12_buy_184 fl_X12_122 (by first | rfl | assumption) rfl (by first | rfl | assumption) ?_
                    refine hv_bipush (v := 7) dX12_buy_187 (by decide) ?_
                    refine hv_iload_n dX12_buy_189 rfl ?_
                    refine hv_iadd dX12_buy_190 ?_
                    refine hv_dup2 dX12_buy_191 rfl rfl ?_
                    refine hv_iald dX12_buy_192 (by first | rfl | assumption) (j := 7 + i) (nI_add 7 i) (by omega) (by first | decide | assumption) ?_
                    rw [hup_eq, pk_un (by omega), pk_un (by omega), pk_un (by omega), pk_un (by omega), e99 (7 + i) (by omega)]
                    refine hv_iload dX12_buy_193 rfl ?_
                    refine hv_isub dX12_buy_195 ?_
                    refine hv_iast dX12_buy_196 (by first | rfl | assumption) (j := 7 + i) (nI_add 7 i) (by omega) (by first | decide | assumption) ?_
                    rw [hup_up, hup_eq]
                    refine hv_aload_n dX12_buy_197 rfl ?_
                    refine hv_getr dX12_buy_198 fl_X12_122 (by first | rfl | assumption) rfl (by first | rfl | assumption) ?_
                    refine hv_bipush (v := 7) dX12_buy_201 (by decide) ?_
                    refine hv_iload_n dX12_buy_203 rfl ?_
                    refine hv_iadd dX12_buy_204 ?_
                    refine hv_dup2 dX12_buy_205 rfl rfl ?_
                    refine hv_iald dX12_buy_206 (by first | rfl | assumption) (j := 7 + j) (nI_add 7 j) (by omega) (by first | decide | assumption) ?_
                    rw [hup_eq, pk_un (by omega), pk_un (by omega), pk_un (by omega), pk_un (by omega), pk_un (by omega), e99 (7 + j) (by omega)]
                    refine hv_iload dX12_buy_207 rfl ?_
                    refine hv_iadd dX12_buy_209 ?_
                    refine hv_iast dX12_buy_210 (by first | rfl | assumption) (j := 7 + j) (nI_add 7 j) (by omega) (by first | decide | assumption) ?_
                    rw [hup_up, hup_eq]
                    obtain ⟨σ4, hσ4⟩ : ∃ σ4 : hS, va_up σ2 99 (upd (upd (upd (upd (upd (upd (σ2 99) j (σ 98 j - n)) (14 + j) (σ 98 (14 + j) - S)) i (σ 98 i + n)) (14 + i) (σ 98 (14 + i) + S)) (7 + i) (σ 98 (7 + i) - n * P)) (7 + j) (σ 98 (7 + j) + n * P)) = σ4 := ⟨_, rfl⟩
                    rw [hσ4]
                    have p1 : ∀ k, k ∉ [99] → σ4 k = σ2 k := fun k hk => by rw [← hσ4, hva_ne (by simpa using hk)]
                    have p2 : ∀ q, q < 37 → σ4 99 q = fBuy (σ 98) i j n S (n * P) q := by rw [← hσ4, hup_eq]; exact upd_37 (upd_37 (upd_37 (upd_37 (upd_37 (upd_37 e99 rfl) rfl) rfl) rfl) rfl) rfl
                    have p3 : ∀ k, k ∉ xMd → σ4 k = σ1 k := off_tr q4 p1 (by decide) (by decide)
                    refine hv_aload_n dX12_buy_211 rfl ?_
                    refine hv_cv0 (d_records (nn := nn) (by rw [p1 64 (by decide), q5 57 (by decide), qc.2.2.2.2.2.2.1 57 (by decide)]; exact hn) hn40) dX12_buy_212 ml_X12_385 mk_X12_records (by first | rfl | assumption) rfl rfl rfl rfl rfl ?_
                    rintro _ _ σ5 _ ⟨rfl, rfl, rfl, r1, r2, r3, r4⟩
                    refine hv_iload dX12_buy_215 rfl ?_
                    refine hv_iret dX12_buy_217 rfl ?_
                    refine ⟨rfl, rfl, Or.inr (Or.inr ⟨i, j, hi, hj, rfl, rfl, hij, bI_1 c_25, ?_, rfl, fun q hq => ?_, ?_⟩)⟩
                    · rintro (qq | qq | qq | qq)
                      · exact c_49 qq
                      · exact c_63 qq
                      · exact c_77 qq
                      · exact Int32.not_lt.mpr c_95 qq
                    · rw [r2 q hq, p2 q hq, hSm]
                    · exact pDo_of q1 qc p3 (fun q hq => by rw [p1 64 (by decide)]; exact q5 q hq) r1 r3 r4
                · refine hv_bipush (v := -2) dX12_buy_98 (by decide) ?_
                  refine hv_iret dX12_buy_100 rfl ?_
                  first
                    | exact ⟨rfl, rfl, Or.inr (Or.inl ⟨i, j, hi, hj, rfl, rfl, hij, bI_1 c_25, Or.inr (Or.inr (Or.inr (Int32.not_le.mp c_95))), rfl, qR, qk⟩)⟩
                    | exact ⟨rfl, rfl, Or.inr (Or.inl ⟨i, j, hi, hj, rfl, rfl, hij, bI_1 c_25, Or.inr (Or.inr (Or.inl c_77)), rfl, qR, qk⟩)⟩
                    | exact ⟨rfl, rfl, Or.inr (Or.inl ⟨i, j, hi, hj, rfl, rfl, hij, bI_1 c_25, Or.inr (Or.inl c_63), rfl, qR, qk⟩)⟩
                    | exact ⟨rfl, rfl, Or.inr (Or.inl ⟨i, j, hi, hj, rfl, rfl, hij, bI_1 c_25, Or.inl c_49, rfl, qR, qk⟩)⟩
        · refine hv_iconst (v := -1) dX12_buy_28 (by decide) ?_
          refine hv_iret dX12_buy_29 rfl ?_
          first
            | exact ⟨rfl, rfl, Or.inl ⟨fun qq => by rw [bI_0 c_25] at qq; exact absurd qq.2.2.2 (by decide), rfl, rfl⟩⟩
            | exact ⟨rfl, rfl, Or.inl ⟨fun qq => qq.2.2.1 c_18, rfl, rfl⟩⟩
            | exact ⟨rfl, rfl, Or.inl ⟨fun qq => by rw [bI_0 c_13] at qq; exact absurd qq.2.1 (by decide), rfl, rfl⟩⟩
            | exact ⟨rfl, rfl, Or.inl ⟨fun qq => by rw [bI_0 c_5] at qq; exact absurd qq.1 (by decide), rfl, rfl⟩⟩
theorem d_hasProxy {L h : Nat} {a : Int32} (hL : σ 64 18 = nI L) (hL2 : L < 2) (h74 : σ 74 L = nI h) (k2 : h ≤ 7) : hCal G (m_X12_hasProxy (hEq (some (.int (bI (fHasP (fun o => σ 98 (28 + o)) a h)))) (rr 38 51 x y) σ τ)) [.ref (hgA G 64), .int a] shp (rr 38 51 x y) σ τ := by
  refine hv_enter pn_X12 rfl ?_
  have loop : ∀ k i, i + k = h → fHasP (fun o => σ 98 (28 + o)) a i = false → hV G (m_X12_hasProxy (hEq (some (.int (bI (fHasP (fun o => σ 98 (28 + o)) a h)))) (rr 38 51 x y) σ τ)) 0 0 shp 2 [some (.ref (hgA G 64)), some (.int a), some (.int (nI i))] [] (rr 38 51 x y) σ τ := by
    intro k
    induction k with
    | zero =>
      intro i hi hf
      obtain rfl : i = h := by omega
      refine hv_iload_n dX12_hasProxy_2 rfl ?_
      refine hv_aload_n dX12_hasProxy_3 rfl ?_
      refine hv_getr dX12_hasProxy_4 fl_X12_46 (by first | rfl | assumption) rfl (by first | rfl | assumption) ?_
      refine hv_aload_n dX12_hasProxy_7 rfl ?_
      refine hv_geti dX12_hasProxy_8 fl_X12_233 (by first | rfl | assumption) rfl ?_
      refine hv_iald dX12_hasProxy_11 (by first | rfl | assumption) (j := L) hL (by omega) (by first | decide | assumption) ?_
      refine hv_icmp_ge (tgt := 36) dX12_hasProxy_12 (by decide) (fun c_12 => ?_) (fun c_12 => absurd ((by rw [h74]; exact nI_le (Nat.le_refl _) (by omega))) c_12)
      refine hv_iconst (v := 0) dX12_hasProxy_36 (by decide) ?_
      refine hv_zret dX12_hasProxy_37 rfl (by first | exact Or.inl rfl | exact Or.inr rfl | assumption) ?_
      rw [hf]; exact ⟨rfl, rfl, rfl, rfl⟩
    | succ k ih =>
      intro i hi hf
      refine hv_iload_n dX12_hasProxy_2 rfl ?_
      refine hv_aload_n dX12_hasProxy_3 rfl ?_
      refine hv_getr dX12_hasProxy_4 fl_X12_46 (by first | rfl | assumption) rfl (by first | rfl | assumption) ?_
      refine hv_aload_n dX12_hasProxy_7 rfl ?_
      refine hv_geti dX12_hasProxy_8 fl_X12_233 (by first | rfl | assumption) rfl ?_
      refine hv_iald dX12_hasProxy_11 (by first | rfl | assumption) (j := L) hL (by omega) (by first | decide | assumption) ?_
      refine hv_icmp_ge (tgt := 36) dX12_hasProxy_12 (by decide) (fun c_12 => absurd c_12 ((by rw [h74]; exact nI_ge (by omega) (by omega)))) (fun c_12 => ?_)
      refine hv_aload_n dX12_hasProxy_15 rfl ?_
      refine hv_getr dX12_hasProxy_16 fl_X12_119 (by first | rfl | assumption) rfl (by first | rfl | assumption) ?_
      refine hv_bipush (v := 28) dX12_hasProxy_19 (by decide) ?_
      refine hv_iload_n dX12_hasProxy_21 rfl ?_
      refine hv_iadd dX12_hasProxy_22 ?_
      refine hv_iald dX12_hasProxy_23 (by first | rfl | assumption) (j := 28 + i) (nI_add 28 i) (by omega) (by first | decide | assumption) ?_
      refine hv_iload_n dX12_hasProxy_24 rfl ?_
      refine hv_icmp_ne (tgt := 30) dX12_hasProxy_25 (by decide) (fun c_25 => ?_) (fun c_25 => ?_)
      · refine hv_iinc dX12_hasProxy_30 rfl (nI_1 i) rfl rfl ?_
        refine hv_goto (tgt := 2) dX12_hasProxy_33 (by decide) ?_
        exact ih (i + 1) (by omega) (by rw [fHasP, hf, decide_eq_false c_25]; rfl)
      · refine hv_iconst (v := 1) dX12_hasProxy_28 (by decide) ?_
        refine hv_zret dX12_hasProxy_29 rfl (by first | exact Or.inl rfl | exact Or.inr rfl | assumption) ?_
        rw [fHasP_true (f := fun o => σ 98 (28 + o)) c_25 h (by omega)]; exact ⟨rfl, rfl, rfl, rfl⟩
  refine hv_iconst (v := 0) dX12_hasProxy_0 (by decide) ?_
  refine hv_istore_n dX12_hasProxy_1 rfl rfl ?_
  exact loop h 0 (by omega) rfl
theorem d_proxy {L h nn : Nat} {LF : Nat → hF → Int32} {a b : Int32} (ok : okR σ L h LF) (hn : σ 64 57 = nI nn) (hn40 : nn ≤ 40) : hCal G (m_X12_proxy (fun v r' σ' τ' => rr 38 51 x y = r' ∧ τ = τ' ∧ ((¬ (isH h a = true ∧ (b = -1 ∨ (isH h b = true ∧ ¬ a = b))) ∧ v = some (.int 0) ∧ σ = σ') ∨ (∃ i, i < h ∧ a = nI i ∧ (b = -1 ∨ (isH h b = true ∧ ¬ a = b)) ∧ ((σ 98 (28 + i) = (if b = -1 then -2 else b) ∨ fHasP (fun o => σ 98 (28 + o)) a h = true ∨ (¬ b = -1 ∧ ¬ σ 98 (28 + b.toNatClampNeg) < 0)) ∧ v = some (.int 0) ∧ σ = σ' ∨ ¬ (σ 98 (28 + i) = (if b = -1 then -2 else b) ∨ fHasP (fun o => σ 98 (28 + o)) a h = true ∨ (¬ b = -1 ∧ ¬ σ 98 (28 + b.toNatClampNeg) < 0)) ∧ v = some (.int 1) ∧ (∀ j, j < 37 → σ' 98 j = upd (σ 98) (28 + i) (if b = -1 then -2 else b) j) ∧ pDo nn σ σ'))))) [.ref (hgA G 64), .int a, .int b] shp (rr 38 51 x y) σ τ := by
  have k2 := ok.1.2.2.2.1
  obtain ⟨B, hB⟩ : ∃ B : Int32, (if b = -1 then -2 else b) = B := ⟨_, rfl⟩
  have main : ∀ (Q : hPo) i, i < h → a = nI i → (b = -1 ∨ (isH h b = true ∧ ¬ a = b)) → (∀ v r' σ' τ', (rr 38 51 x y = r' ∧ τ = τ' ∧ ((σ 98 (28 + i) = B ∨ fHasP (fun o => σ 98 (28 + o)) a h = true ∨ (¬ b = -1 ∧ ¬ σ 98 (28 + b.toNatClampNeg) < 0)) ∧ v = some (.int 0) ∧ σ = σ' ∨ ¬ (σ 98 (28 + i) = B ∨ fHasP (fun o => σ 98 (28 + o)) a h = true ∨ (¬ b = -1 ∧ ¬ σ 98 (28 + b.toNatClampNeg) < 0)) ∧ v = some (.int 1) ∧ (∀ j, j < 37 → σ' 98 j = upd (σ 98) (28 + i) B j) ∧ pDo nn σ σ')) → Q v r' σ' τ') → hV G (m_X12_proxy Q) 0 0 shp 40 [some (.ref (hgA G 64)), some (.int a), some (.int b), some (.int B)] [] (rr 38 51 x y) σ τ := by
    intro Q i hi ha hb hq
    subst ha
    have hbj : ¬ b = -1 → ∃ j, j < h ∧ b = nI j := fun q => isH_ix k2 (hb.resolve_left q).1
    refine hv_aload_n dX12_proxy_40 rfl ?_
    refine hv_getr dX12_proxy_41 fl_X12_119 (by first | rfl | assumption) rfl (by first | rfl | assumption) ?_
    refine hv_bipush (v := 28) dX12_proxy_44 (by decide) ?_
    refine hv_iload_n dX12_proxy_46 rfl ?_
    refine hv_iadd dX12_proxy_47 ?_
    refine hv_iald dX12_proxy_48 (by first | rfl | assumption) (j := 28 + i) (nI_add 28 i) (by omega) (by first | decide | assumption) ?_
    refine hv_iload_n dX12_proxy_49 rfl ?_
    refine hv_icmp_eq (tgt := 78) dX12_proxy_50 (by decide) (fun c_50 => ?_) (fun c_50 => ?_)
    · refine hv_iconst (v := 0) dX12_proxy_78 (by decide) ?_
      refine hv_zret dX12_proxy_79 rfl (by first | exact Or.inl rfl | exact Or.inr rfl | assumption) ?_
      first
        | exact hq _ _ _ _ ⟨rfl, rfl, Or.inl ⟨Or.inr (Or.inr ⟨c_63, c_75⟩), rfl, rfl⟩⟩
        | exact hq _ _ _ _ ⟨rfl, rfl, Or.inl ⟨Or.inr (Or.inl (bI_1 c_58)), rfl, rfl⟩⟩
        | exact hq _ _ _ _ ⟨rfl, rfl, Or.inl ⟨Or.inl c_50, rfl, rfl⟩⟩
    · refine hv_aload_n dX12_proxy_53 rfl ?_
      refine hv_iload_n dX12_proxy_54 rfl ?_
      refine hv_cv1 (d_hasProxy ok.1.1 ok.1.2.1 ok.1.2.2.1 k2) dX12_proxy_55 ml_X12_388 mk_X12_hasProxy (by first | rfl | assumption) rfl rfl rfl rfl rfl ?_
      rintro _ _ _ _ ⟨rfl, rfl, rfl, rfl⟩
      refine hv_if_ne (tgt := 78) dX12_proxy_58 (by decide) (fun c_58 => ?_) (fun c_58 => ?_)
      · refine hv_iconst (v := 0) dX12_proxy_78 (by decide) ?_
        refine hv_zret dX12_proxy_79 rfl (by first | exact Or.inl rfl | exact Or.inr rfl | assumption) ?_
        first
          | exact hq _ _ _ _ ⟨rfl, rfl, Or.inl ⟨Or.inr (Or.inr ⟨c_63, c_75⟩), rfl, rfl⟩⟩
          | exact hq _ _ _ _ ⟨rfl, rfl, Or.inl ⟨Or.inr (Or.inl (bI_1 c_58)), rfl, rfl⟩⟩
          | exact hq _ _ _ _ ⟨rfl, rfl, Or.inl ⟨Or.inl c_50, rfl, rfl⟩⟩
      · refine hv_iload_n dX12_proxy_61 rfl ?_
        refine hv_iconst (v := -1) dX12_proxy_62 (by decide) ?_
        refine hv_icmp_eq (tgt := 80) dX12_proxy_63 (by decide) (fun c_63 => ?_) (fun c_63 => ?_)
        · refine hv_aload_n dX12_proxy_80 rfl ?_
          refine hv_cv0 (d_copies ok.1.1 ok.1.2.1) dX12_proxy_81 ml_X12_373 mk_X12_copies (by first | rfl | assumption) rfl rfl rfl rfl rfl ?_
          rintro _ _ σ1 _ ⟨rfl, rfl, rfl, q1, q2, q3⟩
          have qc := cp_of ok q1 q2 q3
          have c8 := qc.2.2.2.2.2.2.2
          refine hv_aload_n dX12_proxy_84 rfl ?_
          refine hv_getr dX12_proxy_85 fl_X12_122 (by first | rfl | assumption) rfl (by first | rfl | assumption) ?_
          refine hv_bipush (v := 28) dX12_proxy_88 (by decide) ?_
          refine hv_iload_n dX12_proxy_90 rfl ?_
          refine hv_iadd dX12_proxy_91 ?_
          refine hv_iload_n dX12_proxy_92 rfl ?_
          refine hv_iast dX12_proxy_93 (by first | rfl | assumption) (j := 28 + i) (nI_add 28 i) (by omega) (by first | decide | assumption) ?_
          obtain ⟨σ2, hσ2⟩ : ∃ σ2 : hS, va_up σ1 99 (upd (σ1 99) (28 + i) B) = σ2 := ⟨_, rfl⟩
          rw [hσ2]
          have p1 : ∀ k, k ∉ [99] → σ2 k = σ1 k := fun k hk => by rw [← hσ2, hva_ne (by simpa using hk)]
          have p2 : ∀ j, j < 37 → σ2 99 j = upd (σ 98) (28 + i) B j := by rw [← hσ2, hup_eq]; exact upd_37 c8 rfl
          refine hv_aload_n dX12_proxy_94 rfl ?_
          refine hv_cv0 (d_records (nn := nn) (by rw [p1 64 (by decide), qc.2.2.2.2.2.2.1 57 (by decide)]; exact hn) hn40) dX12_proxy_95 ml_X12_385 mk_X12_records (by first | rfl | assumption) rfl rfl rfl rfl rfl ?_
          rintro _ _ σ3 _ ⟨rfl, rfl, rfl, r1, r2, r3, r4⟩
          refine hv_iconst (v := 1) dX12_proxy_98 (by decide) ?_
          refine hv_zret dX12_proxy_99 rfl (by first | exact Or.inl rfl | exact Or.inr rfl | assumption) ?_
          refine hq _ _ _ _ ⟨rfl, rfl, Or.inr ⟨?_, rfl, fun j hj => (r2 j hj).trans (p2 j hj), pDo_of q1 qc (off_wk p1 (by decide)) (fun j _ => by rw [p1 64 (by decide)]) r1 r3 r4⟩⟩
          rintro (qq | qq | qq)
          · exact c_50 qq
          · rw [bI_0 c_58] at qq; exact absurd qq (by decide)
          · first | exact qq.1 c_63 | exact qq.2 c_75
        · obtain ⟨j, hj, hj2⟩ := hbj c_63
          subst hj2
          rw [nI_clamp (by omega)] at hq
          refine hv_aload_n dX12_proxy_66 rfl ?_
          refine hv_getr dX12_proxy_67 fl_X12_119 (by first | rfl | assumption) rfl (by first | rfl | assumption) ?_
          refine hv_bipush (v := 28) dX12_proxy_70 (by decide) ?_
          refine hv_iload_n dX12_proxy_72 rfl ?_
          refine hv_iadd dX12_proxy_73 ?_
          refine hv_iald dX12_proxy_74 (by first | rfl | assumption) (j := 28 + j) (nI_add 28 j) (by omega) (by first | decide | assumption) ?_
          refine hv_if_lt (tgt := 80) dX12_proxy_75 (by decide) (fun c_75 => ?_) (fun c_75 => ?_)
          · refine hv_aload_n dX12_proxy_80 rfl ?_
            refine hv_cv0 (d_copies ok.1.1 ok.1.2.1) dX12_proxy_81 ml_X12_373 mk_X12_copies (by first | rfl | assumption) rfl rfl rfl rfl rfl ?_
            rintro _ _ σ1 _ ⟨rfl, rfl, rfl, q1, q2, q3⟩
            have qc := cp_of ok q1 q2 q3
            have c8 := qc.2.2.2.2.2.2.2
            refine hv_aload_n dX12_proxy_84 rfl ?_
            refine hv_getr dX12_proxy_85 fl_X12_122 (by first | rfl | assumption) rfl (by first | rfl | assumption) ?_
            refine hv_bipush (v := 28) dX12_proxy_88 (by decide) ?_
            refine hv_iload_n dX12_proxy_90 rfl ?_
            refine hv_iadd dX12_proxy_91 ?_
            refine hv_iload_n dX12_proxy_92 rfl ?_
            refine hv_iast dX12_proxy_93 (by first | rfl | assumption) (j := 28 + i) (nI_add 28 i) (by omega) (by first | decide | assumption) ?_
            obtain ⟨σ2, hσ2⟩ : ∃ σ2 : hS, va_up σ1 99 (upd (σ1 99) (28 + i) B) = σ2 := ⟨_, rfl⟩
            rw [hσ2]
            have p1 : ∀ k, k ∉ [99] → σ2 k = σ1 k := fun k hk => by rw [← hσ2, hva_ne (by simpa using hk)]
            have p2 : ∀ j, j < 37 → σ2 99 j = upd (σ 98) (28 + i) B j := by rw [← hσ2, hup_eq]; exact upd_37 c8 rfl
            refine hv_aload_n dX12_proxy_94 rfl ?_
            refine hv_cv0 (d_records (nn := nn) (by rw [p1 64 (by decide), qc.2.2.2.2.2.2.1 57 (by decide)]; exact hn) hn40) dX12_proxy_95 ml_X12_385 mk_X12_records (by first | rfl | assumption) rfl rfl rfl rfl rfl ?_
            rintro _ _ σ3 _ ⟨rfl, rfl, rfl, r1, r2, r3, r4⟩
            refine hv_iconst (v := 1) dX12_proxy_98 (by decide) ?_
            refine hv_zret dX12_proxy_99 rfl (by first | exact Or.inl rfl | exact Or.inr rfl | assumption) ?_
            refine hq _ _ _ _ ⟨rfl, rfl, Or.inr ⟨?_, rfl, fun j hj => (r2 j hj).trans (p2 j hj), pDo_of q1 qc (off_wk p1 (by decide)) (fun j _ => by rw [p1 64 (by decide)]) r1 r3 r4⟩⟩
            rintro (qq | qq | qq)
            · exact c_50 qq
            · rw [bI_0 c_58] at qq; exact absurd qq (by decide)
            · first | exact qq.1 c_63 | exact qq.2 c_75
          · refine hv_iconst (v := 0) dX12_proxy_78 (by decide) ?_
            refine hv_zret dX12_proxy_79 rfl (by first | exact Or.inl rfl | exact Or.inr rfl | assumption) ?_
            first
              | exact hq _ _ _ _ ⟨rfl, rfl, Or.inl ⟨Or.inr (Or.inr ⟨c_63, c_75⟩), rfl, rfl⟩⟩
              | exact hq _ _ _ _ ⟨rfl, rfl, Or.inl ⟨Or.inr (Or.inl (bI_1 c_58)), rfl, rfl⟩⟩
              | exact hq _ _ _ _ ⟨rfl, rfl, Or.inl ⟨Or.inl c_50, rfl, rfl⟩⟩
  rw [hB]
  refine hv_enter pn_X12 rfl ?_
  refine hv_aload_n dX12_proxy_0 rfl ?_
  refine hv_iload_n dX12_proxy_1 rfl ?_
  refine hv_cv1 (d_isHouse ok.1.1 ok.1.2.1 ok.1.2.2.1 k2) dX12_proxy_2 ml_X12_370 mk_X12_isHouse (by first | rfl | assumption) rfl rfl rfl rfl rfl ?_
  rintro _ _ _ _ ⟨rfl, rfl, rfl, rfl⟩
  refine hv_if_eq (tgt := 26) dX12_proxy_5 (by decide) (fun c_5 => ?_) (fun c_5 => ?_)
  · have hno : ¬ (isH h a = true ∧ (b = -1 ∨ (isH h b = true ∧ ¬ a = b))) := fun qq => by rw [bI_0 c_5] at qq; exact absurd qq.1 (by decide)
    refine hv_iconst (v := 0) dX12_proxy_26 (by decide) ?_
    refine hv_zret dX12_proxy_27 rfl (by first | exact Or.inl rfl | exact Or.inr rfl | assumption) ?_
    exact ⟨rfl, rfl, Or.inl ⟨hno, rfl, rfl⟩⟩
  · refine hv_iload_n dX12_proxy_8 rfl ?_
    refine hv_iconst (v := -1) dX12_proxy_9 (by decide) ?_
    refine hv_icmp_eq (tgt := 28) dX12_proxy_10 (by decide) (fun c_10 => ?_) (fun c_10 => ?_)
    · have hyb : b = -1 ∨ (isH h b = true ∧ ¬ a = b) := Or.inl c_10
      refine hv_iload_n dX12_proxy_28 rfl ?_
      refine hv_iconst (v := -1) dX12_proxy_29 (by decide) ?_
      refine hv_icmp_ne (tgt := 38) dX12_proxy_30 (by decide) (fun c_30 => ?_) (fun c_30 => ?_)
      · rw [if_neg c_30] at hB
        refine hv_iload_n dX12_proxy_38 rfl ?_
        refine hv_str (congrArg (fun z => [Value.int z]) hB) ?_
        refine hv_istore_n dX12_proxy_39 rfl rfl ?_
        obtain ⟨i, hi, hai⟩ := isH_ix k2 (bI_1 c_5)
        exact main _ i hi hai hyb (fun v r' σ' τ' hq => ⟨hq.1, hq.2.1, Or.inr ⟨i, hi, hai, hyb, hq.2.2⟩⟩)
      · rw [if_pos c_30] at hB
        refine hv_bipush (v := -2) dX12_proxy_33 (by decide) ?_
        refine hv_goto (tgt := 39) dX12_proxy_35 (by decide) ?_
        refine hv_str (congrArg (fun z => [Value.int z]) hB) ?_
        refine hv_istore_n dX12_proxy_39 rfl rfl ?_
        obtain ⟨i, hi, hai⟩ := isH_ix k2 (bI_1 c_5)
        exact main _ i hi hai hyb (fun v r' σ' τ' hq => ⟨hq.1, hq.2.1, Or.inr ⟨i, hi, hai, hyb, hq.2.2⟩⟩)
    · refine hv_aload_n dX12_proxy_13 rfl ?_
      refine hv_iload_n dX12_proxy_14 rfl ?_
      refine hv_cv1 (d_isHouse ok.1.1 ok.1.2.1 ok.1.2.2.1 k2) dX12_proxy_15 ml_X12_370 mk_X12_isHouse (by first | rfl | assumption) rfl rfl rfl rfl rfl ?_
      rintro _ _ _ _ ⟨rfl, rfl, rfl, rfl⟩
      refine hv_if_eq (tgt := 26) dX12_proxy_18 (by decide) (fun c_18 => ?_) (fun c_18 => ?_)
      · have hno : ¬ (isH h a = true ∧ (b = -1 ∨ (isH h b = true ∧ ¬ a = b))) := fun qq => qq.2.elim c_10 (fun q2 => by rw [bI_0 c_18] at q2; exact absurd q2.1 (by decide))
        refine hv_iconst (v := 0) dX12_proxy_26 (by decide) ?_
        refine hv_zret dX12_proxy_27 rfl (by first | exact Or.inl rfl | exact Or.inr rfl | assumption) ?_
        exact ⟨rfl, rfl, Or.inl ⟨hno, rfl, rfl⟩⟩
      · refine hv_iload_n dX12_proxy_21 rfl ?_
        refine hv_iload_n dX12_proxy_22 rfl ?_
        refine hv_icmp_ne (tgt := 28) dX12_proxy_23 (by decide) (fun c_23 => ?_) (fun c_23 => ?_)
        · have hyb : b = -1 ∨ (isH h b = true ∧ ¬ a = b) := Or.inr ⟨bI_1 c_18, c_23⟩
          refine hv_iload_n dX12_proxy_28 rfl ?_
          refine hv_iconst (v := -1) dX12_proxy_29 (by decide) ?_
          refine hv_icmp_ne (tgt := 38) dX12_proxy_30 (by decide) (fun c_30 => ?_) (fun c_30 => ?_)
          · rw [if_neg c_30] at hB
            refine hv_iload_n dX12_proxy_38 rfl ?_
            refine hv_str (congrArg (fun z => [Value.int z]) hB) ?_
            refine hv_istore_n dX12_proxy_39 rfl rfl ?_
            obtain ⟨i, hi, hai⟩ := isH_ix k2 (bI_1 c_5)
            exact main _ i hi hai hyb (fun v r' σ' τ' hq => ⟨hq.1, hq.2.1, Or.inr ⟨i, hi, hai, hyb, hq.2.2⟩⟩)
          · rw [if_pos c_30] at hB
            refine hv_bipush (v := -2) dX12_proxy_33 (by decide) ?_
            refine hv_goto (tgt := 39) dX12_proxy_35 (by decide) ?_
            refine hv_str (congrArg (fun z => [Value.int z]) hB) ?_
            refine hv_istore_n dX12_proxy_39 rfl rfl ?_
            obtain ⟨i, hi, hai⟩ := isH_ix k2 (bI_1 c_5)
            exact main _ i hi hai hyb (fun v r' σ' τ' hq => ⟨hq.1, hq.2.1, Or.inr ⟨i, hi, hai, hyb, hq.2.2⟩⟩)
        · have hno : ¬ (isH h a = true ∧ (b = -1 ∨ (isH h b = true ∧ ¬ a = b))) := fun qq => qq.2.elim c_10 (fun q2 => q2.2 c_23)
          refine hv_iconst (v := 0) dX12_proxy_26 (by decide) ?_
          refine hv_zret dX12_proxy_27 rfl (by first | exact Or.inl rfl | exact Or.inr rfl | assumption) ?_
          exact ⟨rfl, rfl, Or.inl ⟨hno, rfl, rfl⟩⟩
end S60

