abbrev m_X12_power (Q : hPo) : hMe := (hrm 6, 0, 0, yX12_power, cX12_power, 8, (some FieldType.int), shp, none, Q)
abbrev m_X12_strongest (Q : hPo) : hMe := (hrm 6, 0, 0, yX12_strongest, cX12_strongest, 6, (some FieldType.int), shp, none, Q)
section S54
variable {G : hGl} {σ : hS} {τ : hT} {x y : Option Nat}
theorem d_ask {L h td : Nat} {k : Int32} {hd fe th : Nat → Nat} {ta : hF} (ok : okPM σ L h hd fe) (htd : σ 64 61 = nI td) (ht20 : td ≤ 20) (hto : fToldM σ td th ta) : hCal G (m_X12_ask (hEq (some (.int (fAskA (fun i => fEat hd fe h 0 i) th ta h td k))) (rr 38 51 x y) σ τ)) [.ref (hgA G 64), .int k] shp (rr 38 51 x y) σ τ := by
  have k2 := ok.2.2.2.1
  have hL2 := ok.2.1
  refine hv_enter pn_X12 rfl ?_
  unfold fAskA
  have inner : ∀ Q kv S be le a, S < 128 → a < 7 → ∀ m o n, o + m = h → n = fCnt S (fun i => fEat hd fe h 0 i) a o → (∀ n', n' = fCnt S (fun i => fEat hd fe h 0 i) a h → hV G (m_X12_ask Q) 0 0 shp 100 [some (.ref (hgA G 64)), some (.int kv), some (.int (nI S)), some (.int be), some (.int le), some (.int (nI a)), some (.int (nI n')), some (.int (nI h))] [] (rr 38 51 x y) σ τ) → hV G (m_X12_ask Q) 0 0 shp 53 [some (.ref (hgA G 64)), some (.int kv), some (.int (nI S)), some (.int be), some (.int le), some (.int (nI a)), some (.int (nI n)), some (.int (nI o))] [] (rr 38 51 x y) σ τ := by
    intro Q kv S be le a hS ha m
    induction m with
    | zero =>
      intro o n hi hn kk
      obtain rfl : o = h := by omega
      refine hv_iload dX12_ask_53 rfl ?_
      refine hv_aload_n dX12_ask_55 rfl ?_
      refine hv_getr dX12_ask_56 fl_X12_46 (by first | rfl | assumption) rfl (by first | rfl | assumption) ?_
      refine hv_aload_n dX12_ask_59 rfl ?_
      refine hv_geti dX12_ask_60 fl_X12_233 (by first | rfl | assumption) rfl ?_
      refine hv_iald dX12_ask_63 (by first | rfl | assumption) (j := L) ok.1 (by omega) (by first | decide | assumption) ?_
      refine hv_icmp_ge (tgt := 100) dX12_ask_64 (by decide) (fun c_64 => ?_) (fun c_64 => absurd ((by rw [ok.2.2.1]; exact nI_le (Nat.le_refl _) (by omega))) c_64)
      exact kk n hn
    | succ m ih =>
      intro o n hi hn kk
      have nx : fCnt S (fun i => fEat hd fe h 0 i) a (o + 1) = if S.testBit o = true then n + (if (fEat hd fe h 0 o).testBit a = true then 1 else 0) else n := by rw [fCnt, ← hn]
      refine hv_iload dX12_ask_53 rfl ?_
      refine hv_aload_n dX12_ask_55 rfl ?_
      refine hv_getr dX12_ask_56 fl_X12_46 (by first | rfl | assumption) rfl (by first | rfl | assumption) ?_
      refine hv_aload_n dX12_ask_59 rfl ?_
      refine hv_geti dX12_ask_60 fl_X12_233 (by first | rfl | assumption) rfl ?_
      refine hv_iald dX12_ask_63 (by first | rfl | assumption) (j := L) ok.1 (by omega) (by first | decide | assumption) ?_
      refine hv_icmp_ge (tgt := 100) dX12_ask_64 (by decide) (fun c_64 => absurd c_64 ((by rw [ok.2.2.1]; exact nI_ge (by omega) (by omega)))) (fun c_64 => ?_)
      refine hv_iload_n dX12_ask_67 rfl ?_
      refine hv_iload dX12_ask_68 rfl ?_
      refine hv_ishr dX12_ask_70 ?_
      refine hv_iconst (v := 1) dX12_ask_71 (by decide) ?_
      refine hv_iand dX12_ask_72 ?_
      refine hv_iconst (v := 1) dX12_ask_73 (by decide) ?_
      rw [b_bit hS (by omega)]
      refine hv_icmp_ne (tgt := 94) dX12_ask_74 (by decide) (fun c_74 => ?_) (fun c_74 => ?_)
      · rw [if_neg (fun qq => c_74 (by rw [qq]; rfl))] at nx
        refine hv_iinc dX12_ask_94 rfl (nI_1 o) rfl rfl ?_
        refine hv_goto (tgt := 53) dX12_ask_97 (by decide) ?_
        first
          | exact ih (o + 1) _ (by omega) nx.symm kk
          | exact ih (o + 1) n (by omega) nx.symm kk
      · rw [if_pos (by cases hq : S.testBit o with | true => rfl | false => rw [hq] at c_74; exact absurd c_74 (by decide))] at nx
        refine hv_iload dX12_ask_77 rfl ?_
        refine hv_aload_n dX12_ask_79 rfl ?_
        refine hv_iload dX12_ask_80 rfl ?_
        refine hv_iconst (v := 0) dX12_ask_82 (by decide) ?_
        refine hv_cv2 (d_panicBy (cm := 0) ok (by omega) (by decide)) dX12_ask_83 ml_X12_397 mk_X12_panicBy (by first | rfl | assumption) rfl rfl rfl rfl rfl ?_
        rintro _ _ _ _ ⟨rfl, rfl, rfl, rfl⟩
        refine hv_iload dX12_ask_86 rfl ?_
        refine hv_ishr dX12_ask_88 ?_
        refine hv_iconst (v := 1) dX12_ask_89 (by decide) ?_
        refine hv_iand dX12_ask_90 ?_
        refine hv_iadd dX12_ask_91 ?_
        rw [b_bit (fEat_lt (by omega) k2) (by omega), show bI ((fEat hd fe h 0 o).testBit a) = nI (if (fEat hd fe h 0 o).testBit a = true then 1 else 0) from by cases (fEat hd fe h 0 o).testBit a <;> rfl, nI_add]
        refine hv_istore dX12_ask_92 rfl rfl ?_
        refine hv_iinc dX12_ask_94 rfl (nI_1 o) rfl rfl ?_
        refine hv_goto (tgt := 53) dX12_ask_97 (by decide) ?_
        first
          | exact ih (o + 1) _ (by omega) nx.symm kk
          | exact ih (o + 1) n (by omega) nx.symm kk
  have outer : ∀ S kv res, S < 128 → (∀ i, h ≤ i → i < 7 → S.testBit i = false) → (res = if S = 0 then -2 else (fAsk S (fun a => fQui (fun i => fEat hd fe h 0 i) a h) h).1) → ∀ m a be le (l6 l7 : Option Value), a + m = h → akM S (fun a => fQui (fun i => fEat hd fe h 0 i) a h) a be le → (S = 0 → a = 0) → hV G (m_X12_ask (hEq (some (.int res)) (rr 38 51 x y) σ τ)) 0 0 shp 29 [some (.ref (hgA G 64)), some (.int kv), some (.int (nI S)), some (.int be), some (.int le), some (.int (nI a)), l6, l7] [] (rr 38 51 x y) σ τ := by
    intro S kv res hS hSb hres m
    induction m with
    | zero =>
      intro a be le l6 l7 hi hak hs0
      obtain rfl : a = h := by omega
      refine hv_iload dX12_ask_29 rfl ?_
      refine hv_aload_n dX12_ask_31 rfl ?_
      refine hv_getr dX12_ask_32 fl_X12_46 (by first | rfl | assumption) rfl (by first | rfl | assumption) ?_
      refine hv_aload_n dX12_ask_35 rfl ?_
      refine hv_geti dX12_ask_36 fl_X12_233 (by first | rfl | assumption) rfl ?_
      refine hv_iald dX12_ask_39 (by first | rfl | assumption) (j := L) ok.1 (by omega) (by first | decide | assumption) ?_
      refine hv_icmp_ge (tgt := 153) dX12_ask_40 (by decide) (fun c_40 => ?_) (fun c_40 => absurd ((by rw [ok.2.2.1]; exact nI_le (Nat.le_refl _) (by omega))) c_40)
      refine hv_iload_n dX12_ask_153 rfl ?_
      refine hv_iret dX12_ask_154 rfl ?_
      refine ⟨congrArg (fun z => some (Value.int z)) ?_, rfl, rfl, rfl⟩
      rw [hres]
      rcases hak with ⟨p1, p2, p3⟩ | ⟨p1, p2⟩
      · have : S = 0 := by
          apply Nat.eq_of_testBit_eq
          intro i
          rw [Nat.zero_testBit]
          by_cases hi7 : i < 7
          · exact hSb i (by omega) hi7
          · have hp : 2 ^ 7 ≤ 2 ^ i := Nat.pow_le_pow_right (by decide) (by omega)
            exact Nat.testBit_lt_two_pow (Nat.lt_of_lt_of_le hS hp)
        rw [if_pos this, p2]
      · rw [if_neg (fun q => by have := hs0 q; omega), ← p2]
    | succ m ih =>
      intro a be le l6 l7 hi hak hs0
      by_cases hz : S = 0
      · obtain rfl : a = 0 := hs0 hz
        subst hz
        refine hv_iload dX12_ask_29 rfl ?_
        refine hv_aload_n dX12_ask_31 rfl ?_
        refine hv_getr dX12_ask_32 fl_X12_46 (by first | rfl | assumption) rfl (by first | rfl | assumption) ?_
        refine hv_aload_n dX12_ask_35 rfl ?_
        refine hv_geti dX12_ask_36 fl_X12_233 (by first | rfl | assumption) rfl ?_
        refine hv_iald dX12_ask_39 (by first | rfl | assumption) (j := L) ok.1 (by omega) (by first | decide | assumption) ?_
        refine hv_icmp_ge (tgt := 153) dX12_ask_40 (by decide) (fun c_40 => absurd c_40 ((by rw [ok.2.2.1]; exact nI_ge (by omega) (by omega)))) (fun c_40 => ?_)
        refine hv_iload_n dX12_ask_43 rfl ?_
        refine hv_if_eq (tgt := 153) dX12_ask_44 (by decide) (fun c_44 => ?_) (fun c_44 => absurd ((by decide)) c_44)
        refine hv_iload_n dX12_ask_153 rfl ?_
        refine hv_iret dX12_ask_154 rfl ?_
        refine ⟨congrArg (fun z => some (Value.int z)) ?_, rfl, rfl, rfl⟩
        rw [hres, if_pos rfl]
        rcases hak with ⟨p1, p2, p3⟩ | ⟨p1, p2⟩
        · exact p2.symm
        · exact absurd p1 (by omega)
      · have hsum := fCnt_sum (m := S) (f := fun i => fEat hd fe h 0 i) (a := a) k2 hSb
        have hp7 := pop7_le S
        refine hv_iload dX12_ask_29 rfl ?_
        refine hv_aload_n dX12_ask_31 rfl ?_
        refine hv_getr dX12_ask_32 fl_X12_46 (by first | rfl | assumption) rfl (by first | rfl | assumption) ?_
        refine hv_aload_n dX12_ask_35 rfl ?_
        refine hv_geti dX12_ask_36 fl_X12_233 (by first | rfl | assumption) rfl ?_
        refine hv_iald dX12_ask_39 (by first | rfl | assumption) (j := L) ok.1 (by omega) (by first | decide | assumption) ?_
        refine hv_icmp_ge (tgt := 153) dX12_ask_40 (by decide) (fun c_40 => absurd c_40 ((by rw [ok.2.2.1]; exact nI_ge (by omega) (by omega)))) (fun c_40 => ?_)
        refine hv_iload_n dX12_ask_43 rfl ?_
        refine hv_if_eq (tgt := 153) dX12_ask_44 (by decide) (fun c_44 => absurd c_44 ((nI_ne0 (by omega) (by omega)))) (fun c_44 => ?_)
        refine hv_iconst (v := 0) dX12_ask_47 (by decide) ?_
        refine hv_istore dX12_ask_48 rfl rfl ?_
        refine hv_iconst (v := 0) dX12_ask_50 (by decide) ?_
        refine hv_istore dX12_ask_51 rfl rfl ?_
        refine inner _ kv S be le a hS (by omega) h 0 0 (by omega) rfl ?_
        intro n hn
        have hle : fLeft S (fun a => fQui (fun i => fEat hd fe h 0 i) a h) a = nI (if n ≤ pop7 S - n then pop7 S - n else n) := by
          rw [← hn] at hsum
          unfold fLeft hmax
          dsimp only
          rw [nI_subN (by omega)]
          by_cases c : pop7 (S &&& fQui (fun i => fEat hd fe h 0 i) a h) < pop7 S - pop7 (S &&& fQui (fun i => fEat hd fe h 0 i) a h)
          · rw [if_pos (nI_lt c (by omega)), if_neg (by omega)]; congr 1; omega
          · rw [if_neg (nI_nlt (by omega) (by omega))]
            by_cases c2 : n ≤ pop7 S - n
            · rw [if_pos c2]; congr 1; omega
            · rw [if_neg c2]; congr 1; omega
        refine hv_iload dX12_ask_100 rfl ?_
        refine hv_iload_n dX12_ask_102 rfl ?_
        refine hv_cs1 (d_bits hS) dX12_ask_103 ml_X12_394 mk_X12_bits rfl rfl rfl ?_
        rintro _ _ _ _ ⟨rfl, rfl, rfl, rfl⟩
        refine hv_iload dX12_ask_106 rfl ?_
        refine hv_isub dX12_ask_108 ?_
        rw [nI_subN (by omega)]
        refine hv_icmp_le (tgt := 117) dX12_ask_109 (by decide) (fun c_109 => ?_) (fun c_109 => ?_)
        · rw [if_pos ((nI_leI (by omega) (by omega)).mp c_109)] at hle
          refine hv_iload_n dX12_ask_117 rfl ?_
          refine hv_cs1 (d_bits hS) dX12_ask_118 ml_X12_394 mk_X12_bits rfl rfl rfl ?_
          rintro _ _ _ _ ⟨rfl, rfl, rfl, rfl⟩
          refine hv_iload dX12_ask_121 rfl ?_
          refine hv_isub dX12_ask_123 ?_
          try rw [nI_subN (by omega)]
          rw [← hle]
          refine hv_istore dX12_ask_124 rfl rfl ?_
          refine hv_iload_n dX12_ask_126 rfl ?_
          refine hv_if_lt (tgt := 140) dX12_ask_127 (by decide) (fun c_127 => ?_) (fun c_127 => ?_)
          · refine hv_iload dX12_ask_140 rfl ?_
            refine hv_istore_n dX12_ask_142 rfl rfl ?_
            refine hv_iload dX12_ask_143 rfl ?_
            refine hv_istore dX12_ask_145 rfl rfl ?_
            refine hv_iinc dX12_ask_147 rfl (nI_1 a) rfl rfl ?_
            refine hv_goto (tgt := 29) dX12_ask_150 (by decide) ?_
            refine ih (a + 1) _ _ _ _ (by omega) (Or.inr ⟨by omega, ?_⟩) (fun q => absurd q hz)
            rw [fAsk]
            rcases hak with ⟨p1, p2, p3⟩ | ⟨p1, p2⟩
            · subst p1 p2
              rw [if_pos (Or.inl (show (fAsk S (fun a => fQui (fun i => fEat hd fe h 0 i) a h) 0).1 = -1 from rfl))]
              all_goals first | rfl | exact absurd (show (-2 : Int32) < 0 by decide) c_127
            · obtain ⟨j, hj, hj2⟩ := fAsk_ge (m := S) (q := fun a => fQui (fun i => fEat hd fe h 0 i) a h) a p1
              have e1 : be = nI j := by rw [← hj2, ← p2]
              have hn1 : ¬ (fAsk S (fun a => fQui (fun i => fEat hd fe h 0 i) a h) a).1 = -1 := fun q => by
                rw [hj2] at q; exact absurd (show nI j < 0 by rw [q]; decide) (nI_pos (by omega))
              have hp2 : (fAsk S (fun a => fQui (fun i => fEat hd fe h 0 i) a h) a).2 = le := by rw [← p2]
              first
              | (rw [if_pos (Or.inr (by rw [hp2]; exact c_134))])
              | (rw [if_neg (fun q => q.elim hn1 (fun q2 => c_134 (by rw [hp2] at q2; exact q2)))]; exact p2)
              | (rw [e1] at c_127; exact absurd c_127 (nI_pos (by omega)))
          · refine hv_iload dX12_ask_130 rfl ?_
            refine hv_iload dX12_ask_132 rfl ?_
            refine hv_icmp_lt (tgt := 140) dX12_ask_134 (by decide) (fun c_134 => ?_) (fun c_134 => ?_)
            · refine hv_iload dX12_ask_140 rfl ?_
              refine hv_istore_n dX12_ask_142 rfl rfl ?_
              refine hv_iload dX12_ask_143 rfl ?_
              refine hv_istore dX12_ask_145 rfl rfl ?_
              refine hv_iinc dX12_ask_147 rfl (nI_1 a) rfl rfl ?_
              refine hv_goto (tgt := 29) dX12_ask_150 (by decide) ?_
              refine ih (a + 1) _ _ _ _ (by omega) (Or.inr ⟨by omega, ?_⟩) (fun q => absurd q hz)
              rw [fAsk]
              rcases hak with ⟨p1, p2, p3⟩ | ⟨p1, p2⟩
              · subst p1 p2
                rw [if_pos (Or.inl (show (fAsk S (fun a => fQui (fun i => fEat hd fe h 0 i) a h) 0).1 = -1 from rfl))]
                all_goals first | rfl | exact absurd (show (-2 : Int32) < 0 by decide) c_127
              · obtain ⟨j, hj, hj2⟩ := fAsk_ge (m := S) (q := fun a => fQui (fun i => fEat hd fe h 0 i) a h) a p1
                have e1 : be = nI j := by rw [← hj2, ← p2]
                have hn1 : ¬ (fAsk S (fun a => fQui (fun i => fEat hd fe h 0 i) a h) a).1 = -1 := fun q => by
                  rw [hj2] at q; exact absurd (show nI j < 0 by rw [q]; decide) (nI_pos (by omega))
                have hp2 : (fAsk S (fun a => fQui (fun i => fEat hd fe h 0 i) a h) a).2 = le := by rw [← p2]
                first
                | (rw [if_pos (Or.inr (by rw [hp2]; exact c_134))])
                | (rw [if_neg (fun q => q.elim hn1 (fun q2 => c_134 (by rw [hp2] at q2; exact q2)))]; exact p2)
                | (rw [e1] at c_127; exact absurd c_127 (nI_pos (by omega)))
            · refine hv_goto (tgt := 147) dX12_ask_137 (by decide) ?_
              refine hv_iinc dX12_ask_147 rfl (nI_1 a) rfl rfl ?_
              refine hv_goto (tgt := 29) dX12_ask_150 (by decide) ?_
              refine ih (a + 1) _ _ _ _ (by omega) (Or.inr ⟨by omega, ?_⟩) (fun q => absurd q hz)
              rw [fAsk]
              rcases hak with ⟨p1, p2, p3⟩ | ⟨p1, p2⟩
              · subst p1 p2
                rw [if_pos (Or.inl (show (fAsk S (fun a => fQui (fun i => fEat hd fe h 0 i) a h) 0).1 = -1 from rfl))]
                all_goals first | rfl | exact absurd (show (-2 : Int32) < 0 by decide) c_127
              · obtain ⟨j, hj, hj2⟩ := fAsk_ge (m := S) (q := fun a => fQui (fun i => fEat hd fe h 0 i) a h) a p1
                have e1 : be = nI j := by rw [← hj2, ← p2]
                have hn1 : ¬ (fAsk S (fun a => fQui (fun i => fEat hd fe h 0 i) a h) a).1 = -1 := fun q => by
                  rw [hj2] at q; exact absurd (show nI j < 0 by rw [q]; decide) (nI_pos (by omega))
                have hp2 : (fAsk S (fun a => fQui (fun i => fEat hd fe h 0 i) a h) a).2 = le := by rw [← p2]
                first
                | (rw [if_pos (Or.inr (by rw [hp2]; exact c_134))])
                | (rw [if_neg (fun q => q.elim hn1 (fun q2 => c_134 (by rw [hp2] at q2; exact q2)))]; exact p2)
                | (rw [e1] at c_127; exact absurd c_127 (nI_pos (by omega)))
        · rw [if_neg (fun qq => c_109 (nI_le qq (by omega)))] at hle
          refine hv_iload dX12_ask_112 rfl ?_
          refine hv_goto (tgt := 124) dX12_ask_114 (by decide) ?_
          try rw [nI_subN (by omega)]
          rw [← hle]
          refine hv_istore dX12_ask_124 rfl rfl ?_
          refine hv_iload_n dX12_ask_126 rfl ?_
          refine hv_if_lt (tgt := 140) dX12_ask_127 (by decide) (fun c_127 => ?_) (fun c_127 => ?_)
          · refine hv_iload dX12_ask_140 rfl ?_
            refine hv_istore_n dX12_ask_142 rfl rfl ?_
            refine hv_iload dX12_ask_143 rfl ?_
            refine hv_istore dX12_ask_145 rfl rfl ?_
            refine hv_iinc dX12_ask_147 rfl (nI_1 a) rfl rfl ?_
            refine hv_goto (tgt := 29) dX12_ask_150 (by decide) ?_
            refine ih (a + 1) _ _ _ _ (by omega) (Or.inr ⟨by omega, ?_⟩) (fun q => absurd q hz)
            rw [fAsk]
            rcases hak with ⟨p1, p2, p3⟩ | ⟨p1, p2⟩
            · subst p1 p2
              rw [if_pos (Or.inl (show (fAsk S (fun a => fQui (fun i => fEat hd fe h 0 i) a h) 0).1 = -1 from rfl))]
              all_goals first | rfl | exact absurd (show (-2 : Int32) < 0 by decide) c_127
            · obtain ⟨j, hj, hj2⟩ := fAsk_ge (m := S) (q := fun a => fQui (fun i => fEat hd fe h 0 i) a h) a p1
              have e1 : be = nI j := by rw [← hj2, ← p2]
              have hn1 : ¬ (fAsk S (fun a => fQui (fun i => fEat hd fe h 0 i) a h) a).1 = -1 := fun q => by
                rw [hj2] at q; exact absurd (show nI j < 0 by rw [q]; decide) (nI_pos (by omega))
              have hp2 : (fAsk S (fun a => fQui (fun i => fEat hd fe h 0 i) a h) a).2 = le := by rw [← p2]
              first
              | (rw [if_pos (Or.inr (by rw [hp2]; exact c_134))])
              | (rw [if_neg (fun q => q.elim hn1 (fun q2 => c_134 (by rw [hp2] at q2; exact q2)))]; exact p2)
              | (rw [e1] at c_127; exact absurd c_127 (nI_pos (by omega)))
          · refine hv_iload dX12_ask_130 rfl ?_
            refine hv_iload dX12_ask_132 rfl ?_
            refine hv_icmp_lt (tgt := 140) dX12_ask_134 (by decide) (fun c_134 => ?_) (fun c_134 => ?_)
            · refine hv_iload dX12_ask_140 rfl ?_
              refine hv_istore_n dX12_ask_142 rfl rfl ?_
              refine hv_iload dX12_ask_143 rfl ?_
              refine hv_istore dX12_ask_145 rfl rfl ?_
              refine hv_iinc dX12_ask_147 rfl (nI_1 a) rfl rfl ?_
              refine hv_goto (tgt := 29) dX12_ask_150 (by decide) ?_
              refine ih (a + 1) _ _ _ _ (by omega) (Or.inr ⟨by omega, ?_⟩) (fun q => absurd q hz)
              rw [fAsk]
              rcases hak with ⟨p1, p2, p3⟩ | ⟨p1, p2⟩
              · subst p1 p2
                rw [if_pos (Or.inl (show (fAsk S (fun a => fQui (fun i => fEat hd fe h 0 i) a h) 0).1 = -1 from rfl))]
                all_goals first | rfl | exact absurd (show (-2 : Int32) < 0 by decide) c_127
              · obtain ⟨j, hj, hj2⟩ := fAsk_ge (m := S) (q := fun a => fQui (fun i => fEat hd fe h 0 i) a h) a p1
                have e1 : be = nI j := by rw [← hj2, ← p2]
                have hn1 : ¬ (fAsk S (fun a => fQui (fun i => fEat hd fe h 0 i) a h) a).1 = -1 := fun q => by
                  rw [hj2] at q; exact absurd (show nI j < 0 by rw [q]; decide) (nI_pos (by omega))
                have hp2 : (fAsk S (fun a => fQui (fun i => fEat hd fe h 0 i) a h) a).2 = le := by rw [← p2]
                first
                | (rw [if_pos (Or.inr (by rw [hp2]; exact c_134))])
                | (rw [if_neg (fun q => q.elim hn1 (fun q2 => c_134 (by rw [hp2] at q2; exact q2)))]; exact p2)
                | (rw [e1] at c_127; exact absurd c_127 (nI_pos (by omega)))
            · refine hv_goto (tgt := 147) dX12_ask_137 (by decide) ?_
              refine hv_iinc dX12_ask_147 rfl (nI_1 a) rfl rfl ?_
              refine hv_goto (tgt := 29) dX12_ask_150 (by decide) ?_
              refine ih (a + 1) _ _ _ _ (by omega) (Or.inr ⟨by omega, ?_⟩) (fun q => absurd q hz)
              rw [fAsk]
              rcases hak with ⟨p1, p2, p3⟩ | ⟨p1, p2⟩
              · subst p1 p2
                rw [if_pos (Or.inl (show (fAsk S (fun a => fQui (fun i => fEat hd fe h 0 i) a h) 0).1 = -1 from rfl))]
                all_goals first | rfl | exact absurd (show (-2 : Int32) < 0 by decide) c_127
              · obtain ⟨j, hj, hj2⟩ := fAsk_ge (m := S) (q := fun a => fQui (fun i => fEat hd fe h 0 i) a h) a p1
                have e1 : be = nI j := by rw [← hj2, ← p2]
                have hn1 : ¬ (fAsk S (fun a => fQui (fun i => fEat hd fe h 0 i) a h) a).1 = -1 := fun q => by
                  rw [hj2] at q; exact absurd (show nI j < 0 by rw [q]; decide) (nI_pos (by omega))
                have hp2 : (fAsk S (fun a => fQui (fun i => fEat hd fe h 0 i) a h) a).2 = le := by rw [← p2]
                first
                | (rw [if_pos (Or.inr (by rw [hp2]; exact c_134))])
                | (rw [if_neg (fun q => q.elim hn1 (fun q2 => c_134 (by rw [hp2] at q2; exact q2)))]; exact p2)
                | (rw [e1] at c_127; exact absurd c_127 (nI_pos (by omega)))
  refine hv_iload_n dX12_ask_0 rfl ?_
  refine hv_iconst (v := 0) dX12_ask_1 (by decide) ?_
  refine hv_aload_n dX12_ask_2 rfl ?_
  refine hv_geti dX12_ask_3 fl_X12_254 (by first | rfl | assumption) rfl ?_
  rw [htd]
  refine hv_cs3 (d_in) dX12_ask_6 ml_X12_319 mk_X12_in rfl rfl rfl ?_
  rintro _ _ _ _ ⟨rfl, rfl, rfl, rfl⟩
  refine hv_if_ne (tgt := 14) dX12_ask_9 (by decide) (fun c_9 => ?_) (fun c_9 => ?_)
  · rw [if_pos (bI_1 c_9)]
    obtain ⟨ki, hki, rfl⟩ := inI_ix (by omega) (bI_1 c_9)
    rw [nI_clamp (by omega)]
    refine hv_aload_n dX12_ask_14 rfl ?_
    refine hv_iload_n dX12_ask_15 rfl ?_
    refine hv_cv1 (d_beganBits ok (by omega) (fun i hi => hto i (by omega))) dX12_ask_16 ml_X12_434 mk_X12_beganBits (by first | rfl | assumption) rfl rfl rfl rfl rfl ?_
    rintro _ _ _ _ ⟨rfl, rfl, rfl, rfl⟩
    refine hv_istore_n dX12_ask_19 rfl rfl ?_
    refine hv_bipush (v := -2) dX12_ask_20 (by decide) ?_
    refine hv_istore_n dX12_ask_22 rfl rfl ?_
    refine hv_iconst (v := 0) dX12_ask_23 (by decide) ?_
    refine hv_istore dX12_ask_24 rfl rfl ?_
    refine hv_iconst (v := 0) dX12_ask_26 (by decide) ?_
    refine hv_istore dX12_ask_27 rfl rfl ?_
    exact outer _ _ _ (fSus_lt _ _ _ _ _ k2) (fun i h1 _ => fSus_tb h i h1) rfl h 0 (-2) 0 none none (by omega) (Or.inl ⟨rfl, rfl, rfl⟩) (fun _ => rfl)
  · rw [if_neg (fun qq => by rw [bI_0 c_9] at qq; exact absurd qq (by decide))]
    refine hv_iconst (v := -1) dX12_ask_12 (by decide) ?_
    refine hv_iret dX12_ask_13 rfl ?_
    exact ⟨rfl, rfl, rfl, rfl⟩
end S54

