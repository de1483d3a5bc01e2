def fEar (s o : Nat) : Nat → Nat → Bool
  | 0, _ => false
  | k + 1, i => if fMem s (nI i) 7 0 0 = fMem o (nI i) 7 0 0 then fEar s o k (i + 1) else decide (fMem s (nI i) 7 0 0 < fMem o (nI i) 7 0 0)
set_option maxRecDepth 100000 in
theorem fEar_ok : ∀ s, s < 128 → pop7 s ≤ 3 → ∀ o, o < 128 → pop7 s = pop7 o → fEar s o 3 0 = !decide (nI s &&& ((nI s ^^^ nI o) &&& -(nI s ^^^ nI o)) = 0) := by decide +kernel
section S52
variable {G : hGl} {σ : hS} {τ : hT} {x y : Option Nat}
theorem d_isEarlier {m o : Nat} {r : hR} (hm : m < 128) (ho : o < 128) : hCal G (m_X12_isEarlier (hEq (some (.int (bI (fEar m o 3 0)))) r σ τ)) [.int (nI m), .int (nI o)] shp r σ τ := by
  refine hv_enter pn_X12 rfl ?_
  have loop : ∀ k i (res : Bool), i + k = 3 → fEar m o k i = res → hV G (m_X12_isEarlier (hEq (some (.int (bI res))) r σ τ)) 0 0 shp 2 [some (.int (nI m)), some (.int (nI o)), some (.int (nI i))] [] r σ τ := by
    intro k
    induction k with
    | zero =>
      intro i res hi hr
      obtain rfl : i = 3 := by omega
      refine hv_iload_n dX12_isEarlier_2 rfl ?_
      refine hv_iconst (v := 3) dX12_isEarlier_3 (by decide) ?_
      refine hv_icmp_ge (tgt := 45) dX12_isEarlier_4 (by decide) (fun c_4 => ?_) (fun c_4 => absurd ((by decide)) c_4)
      refine hv_iconst (v := 0) dX12_isEarlier_45 (by decide) ?_
      refine hv_zret dX12_isEarlier_46 rfl (by first | exact Or.inl rfl | exact Or.inr rfl | assumption) ?_
      rw [← hr]; exact ⟨rfl, rfl, rfl, rfl⟩
    | succ k ih =>
      intro i res hi hr
      rw [fEar] at hr
      refine hv_iload_n dX12_isEarlier_2 rfl ?_
      refine hv_iconst (v := 3) dX12_isEarlier_3 (by decide) ?_
      refine hv_icmp_ge (tgt := 45) dX12_isEarlier_4 (by decide) (fun c_4 => absurd c_4 ((nI_ge (b := 3) (by omega) (by decide)))) (fun c_4 => ?_)
      refine hv_iload_n dX12_isEarlier_7 rfl ?_
      refine hv_iload_n dX12_isEarlier_8 rfl ?_
      refine hv_cs2 (d_ithOf hm) dX12_isEarlier_9 ml_X12_400 mk_X12_ithOf rfl rfl rfl ?_
      rintro _ _ _ _ ⟨rfl, rfl, rfl, rfl⟩
      refine hv_iload_n dX12_isEarlier_12 rfl ?_
      refine hv_iload_n dX12_isEarlier_13 rfl ?_
      refine hv_cs2 (d_ithOf ho) dX12_isEarlier_14 ml_X12_400 mk_X12_ithOf rfl rfl rfl ?_
      rintro _ _ _ _ ⟨rfl, rfl, rfl, rfl⟩
      refine hv_icmp_eq (tgt := 39) dX12_isEarlier_17 (by decide) (fun c_17 => ?_) (fun c_17 => ?_)
      · rw [if_pos c_17] at hr
        refine hv_iinc dX12_isEarlier_39 rfl (nI_1 i) rfl rfl ?_
        refine hv_goto (tgt := 2) dX12_isEarlier_42 (by decide) ?_
        exact ih (i + 1) res (by omega) hr
      · rw [if_neg c_17] at hr
        refine hv_iload_n dX12_isEarlier_20 rfl ?_
        refine hv_iload_n dX12_isEarlier_21 rfl ?_
        refine hv_cs2 (d_ithOf hm) dX12_isEarlier_22 ml_X12_400 mk_X12_ithOf rfl rfl rfl ?_
        rintro _ _ _ _ ⟨rfl, rfl, rfl, rfl⟩
        refine hv_iload_n dX12_isEarlier_25 rfl ?_
        refine hv_iload_n dX12_isEarlier_26 rfl ?_
        refine hv_cs2 (d_ithOf ho) dX12_isEarlier_27 ml_X12_400 mk_X12_ithOf rfl rfl rfl ?_
        rintro _ _ _ _ ⟨rfl, rfl, rfl, rfl⟩
        refine hv_icmp_ge (tgt := 37) dX12_isEarlier_30 (by decide) (fun c_30 => ?_) (fun c_30 => ?_)
        · rw [decide_eq_false (Int32.not_lt.mpr c_30)] at hr
          refine hv_iconst (v := 0) dX12_isEarlier_37 (by decide) ?_
          refine hv_zret dX12_isEarlier_38 rfl (by first | exact Or.inl rfl | exact Or.inr rfl | assumption) ?_
          rw [← hr]; exact ⟨rfl, rfl, rfl, rfl⟩
        · rw [decide_eq_true (Int32.not_le.mp c_30)] at hr
          refine hv_iconst (v := 1) dX12_isEarlier_33 (by decide) ?_
          refine hv_goto (tgt := 38) dX12_isEarlier_34 (by decide) ?_
          refine hv_zret dX12_isEarlier_38 rfl (by first | exact Or.inl rfl | exact Or.inr rfl | assumption) ?_
          rw [← hr]; exact ⟨rfl, rfl, rfl, rfl⟩
  refine hv_iconst (v := 0) dX12_isEarlier_0 (by decide) ?_
  refine hv_istore_n dX12_isEarlier_1 rfl rfl ?_
  exact loop 3 0 _ (by omega) rfl
theorem d_calm {L h : Nat} {a o i : Int32} {hd fe : Nat → Nat} (ok : okPM σ L h hd fe) : hCal G (m_X12_calm (hEq (some (.int (fCalmA (fun b cm => fEat hd fe h cm b) h a o i))) (rr 38 51 x y) σ τ)) [.ref (hgA G 64), .int a, .int o, .int i] shp (rr 38 51 x y) σ τ := by
  have k2 := ok.2.2.2.1
  have hL2 := ok.2.1
  have hp : 2 ^ h ≤ 128 := show 2 ^ h ≤ 2 ^ 7 from Nat.pow_le_pow_right (by decide) k2
  refine hv_enter pn_X12 rfl ?_
  unfold fCalmA
  have loop : ∀ ia io, ia < h → io < h → inI (-1) 2 i = true → ∀ (res : Int32), (match fClm (fun cm => fEat hd fe h cm ia) (2 ^ ia ||| 2 ^ io) io (2 ^ h) with
    | none => -2
    | some m => if i = -1 then nI (pop7 m) else fMem m i 7 0 0) = res → ∀ k s cq, s + k = 2 ^ h → fClm (fun cm => fEat hd fe h cm ia) (2 ^ ia ||| 2 ^ io) io s = cq → hV G (m_X12_calm (hEq (some (.int res)) (rr 38 51 x y) σ τ)) 0 0 shp 47 [some (.ref (hgA G 64)), some (.int (nI ia)), some (.int (nI io)), some (.int i), some (.int (nI (2 ^ ia ||| 2 ^ io))), some (.int (oN cq)), some (.int (nI s))] [] (rr 38 51 x y) σ τ := by
    intro ia io hia hio hin res hres k
    have hboth : 2 ^ ia ||| 2 ^ io < 128 := or_lt128 (pow_lt7 (by omega)) (pow_lt7 (by omega))
    induction k with
    | zero =>
      intro s cq hs hcq
      obtain rfl : s = 2 ^ h := by omega
      rw [hcq] at hres
      refine hv_iload dX12_calm_47 rfl ?_
      refine hv_iconst (v := 1) dX12_calm_49 (by decide) ?_
      refine hv_aload_n dX12_calm_50 rfl ?_
      refine hv_getr dX12_calm_51 fl_X12_46 (by first | rfl | assumption) rfl (by first | rfl | assumption) ?_
      refine hv_aload_n dX12_calm_54 rfl ?_
      refine hv_geti dX12_calm_55 fl_X12_233 (by first | rfl | assumption) rfl ?_
      refine hv_iald dX12_calm_58 (by first | rfl | assumption) (j := L) ok.1 (by omega) (by first | decide | assumption) ?_
      refine hv_ishl dX12_calm_59 ?_
      rw [ok.2.2.1, b_shl (by omega)]
      refine hv_icmp_ge (tgt := 149) dX12_calm_60 (by decide) (fun c_60 => ?_) (fun c_60 => absurd ((nI_le (Nat.le_refl _) (by omega))) c_60)
      refine hv_iload dX12_calm_149 rfl ?_
      refine hv_if_ge (tgt := 157) dX12_calm_151 (by decide) (fun c_151 => ?_) (fun c_151 => ?_)
      · obtain ⟨m, rfl⟩ : ∃ m, cq = some m := by
          cases cq with
          | none => exact absurd c_151 (by decide)
          | some m => exact ⟨m, rfl⟩
        have hlm := fClm_lt _ _ _ _ _ hcq
        dsimp only at hres
        refine hv_iload_n dX12_calm_157 rfl ?_
        refine hv_iconst (v := -1) dX12_calm_158 (by decide) ?_
        refine hv_icmp_ne (tgt := 170) dX12_calm_159 (by decide) (fun c_159 => ?_) (fun c_159 => ?_)
        · rw [if_neg c_159] at hres
          refine hv_iload dX12_calm_170 rfl ?_
          refine hv_iload_n dX12_calm_172 rfl ?_
          refine hv_cs2 (d_ithOf (m := m) (by omega)) dX12_calm_173 ml_X12_400 mk_X12_ithOf rfl rfl rfl ?_
          rintro _ _ _ _ ⟨rfl, rfl, rfl, rfl⟩
          refine hv_iret dX12_calm_176 rfl ?_
          rw [← hres]; exact ⟨rfl, rfl, rfl, rfl⟩
        · rw [if_pos c_159] at hres
          refine hv_iload dX12_calm_162 rfl ?_
          refine hv_cs1 (d_bits (m := m) (by omega)) dX12_calm_164 ml_X12_394 mk_X12_bits rfl rfl rfl ?_
          rintro _ _ _ _ ⟨rfl, rfl, rfl, rfl⟩
          refine hv_goto (tgt := 176) dX12_calm_167 (by decide) ?_
          refine hv_iret dX12_calm_176 rfl ?_
          rw [← hres]; exact ⟨rfl, rfl, rfl, rfl⟩
      · have hcn : cq = none := by
          cases cq with
          | none => rfl
          | some m =>
            have hlm := fClm_lt _ _ _ _ _ hcq
            exact absurd (show nI m < 0 from Int32.not_le.mp c_151) (nI_pos (by omega))
        subst hcn
        refine hv_bipush (v := -2) dX12_calm_154 (by decide) ?_
        refine hv_iret dX12_calm_156 rfl ?_
        rw [← hres]; exact ⟨rfl, rfl, rfl, rfl⟩
    | succ k ih =>
      intro s cq hs hcq
      have nx : fClm (fun cm => fEat hd fe h cm ia) (2 ^ ia ||| 2 ^ io) io (s + 1) = if s &&& (2 ^ ia ||| 2 ^ io) = 0 ∧ pop7 s ≤ 3 ∧ (∀ b, cq = some b → fAhd s b = true) ∧ (fEat hd fe h s ia).testBit io = false then some s else cq := by rw [fClm, hcq]
      have hp7 := pop7_le s
      have hbq : ∀ b, cq = some b → b < s := fun b e => fClm_lt _ _ _ _ _ (hcq.trans e)
      have hand : s &&& (2 ^ ia ||| 2 ^ io) < 128 := and_lt128 (by omega)
      have hor : ∀ m, cq = some m → pop7 m ≤ 7 := fun m _ => pop7_le m
      refine hv_iload dX12_calm_47 rfl ?_
      refine hv_iconst (v := 1) dX12_calm_49 (by decide) ?_
      refine hv_aload_n dX12_calm_50 rfl ?_
      refine hv_getr dX12_calm_51 fl_X12_46 (by first | rfl | assumption) rfl (by first | rfl | assumption) ?_
      refine hv_aload_n dX12_calm_54 rfl ?_
      refine hv_geti dX12_calm_55 fl_X12_233 (by first | rfl | assumption) rfl ?_
      refine hv_iald dX12_calm_58 (by first | rfl | assumption) (j := L) ok.1 (by omega) (by first | decide | assumption) ?_
      refine hv_ishl dX12_calm_59 ?_
      rw [ok.2.2.1, b_shl (by omega)]
      refine hv_icmp_ge (tgt := 149) dX12_calm_60 (by decide) (fun c_60 => absurd c_60 ((nI_ge (by omega) (by omega)))) (fun c_60 => ?_)
      refine hv_iload dX12_calm_63 rfl ?_
      refine hv_iload dX12_calm_65 rfl ?_
      refine hv_iand dX12_calm_67 ?_
      rw [b_and (by omega) (by omega)]
      refine hv_if_ne (tgt := 143) dX12_calm_68 (by decide) (fun c_68 => ?_) (fun c_68 => ?_)
      · rw [if_neg (fun qq => c_68 (by rw [qq.1]; rfl))] at nx
        refine hv_iinc dX12_calm_143 rfl (nI_1 s) rfl rfl ?_
        refine hv_goto (tgt := 47) dX12_calm_146 (by decide) ?_
        first
          | exact ih (s + 1) (some s) (by omega) nx
          | exact ih (s + 1) cq (by omega) nx
          | exact ih (s + 1) (some m) (by omega) nx
      · have e0 : s &&& (2 ^ ia ||| 2 ^ io) = 0 := (nI_eq (b := 0) (by omega) (by decide)).mp c_68
        refine hv_iload dX12_calm_71 rfl ?_
        refine hv_cs1 (d_bits (m := s) (by omega)) dX12_calm_73 ml_X12_394 mk_X12_bits rfl rfl rfl ?_
        rintro _ _ _ _ ⟨rfl, rfl, rfl, rfl⟩
        refine hv_iconst (v := 3) dX12_calm_76 (by decide) ?_
        refine hv_icmp_gt (tgt := 143) dX12_calm_77 (by decide) (fun c_77 => ?_) (fun c_77 => ?_)
        · rw [if_neg (fun qq => nI_nlt (b := pop7 s) (a := 3) qq.2.1 (by omega) c_77)] at nx
          refine hv_iinc dX12_calm_143 rfl (nI_1 s) rfl rfl ?_
          refine hv_goto (tgt := 47) dX12_calm_146 (by decide) ?_
          first
            | exact ih (s + 1) (some s) (by omega) nx
            | exact ih (s + 1) cq (by omega) nx
            | exact ih (s + 1) (some m) (by omega) nx
        · have e3 : pop7 s ≤ 3 := (nI_leI (b := 3) (by omega) (by decide)).mp (Int32.not_lt.mp c_77)
          refine hv_aload_n dX12_calm_80 rfl ?_
          refine hv_iload_n dX12_calm_81 rfl ?_
          refine hv_iload dX12_calm_82 rfl ?_
          refine hv_cv2 (d_panicBy ok hia (by omega)) dX12_calm_84 ml_X12_397 mk_X12_panicBy (by first | rfl | assumption) rfl rfl rfl rfl rfl ?_
          rintro _ _ _ _ ⟨rfl, rfl, rfl, rfl⟩
          refine hv_iload_n dX12_calm_87 rfl ?_
          refine hv_ishr dX12_calm_88 ?_
          refine hv_iconst (v := 1) dX12_calm_89 (by decide) ?_
          refine hv_iand dX12_calm_90 ?_
          refine hv_iconst (v := 1) dX12_calm_91 (by decide) ?_
          rw [b_bit (fEat_lt (by omega) k2) (by omega)]
          refine hv_icmp_ne (tgt := 98) dX12_calm_92 (by decide) (fun c_92 => ?_) (fun c_92 => ?_)
          · have e4 : (fEat hd fe h s ia).testBit io = false := by
              cases hq : (fEat hd fe h s ia).testBit io with
              | false => rfl
              | true => rw [hq] at c_92; exact absurd rfl c_92
            refine hv_iload dX12_calm_98 rfl ?_
            refine hv_if_lt (tgt := 139) dX12_calm_100 (by decide) (fun c_100 => ?_) (fun c_100 => ?_)
            · have hcn : cq = none := by
                cases cq with
                | none => rfl
                | some m =>
                  have hlm := hbq m rfl
                  exact absurd (show nI m < 0 from c_100) (nI_pos (by omega))
              subst hcn
              rw [if_pos ⟨e0, e3, fun b hb => absurd hb (by simp), e4⟩] at nx
              refine hv_iload dX12_calm_139 rfl ?_
              refine hv_istore dX12_calm_141 rfl rfl ?_
              refine hv_iinc dX12_calm_143 rfl (nI_1 s) rfl rfl ?_
              refine hv_goto (tgt := 47) dX12_calm_146 (by decide) ?_
              first
                | exact ih (s + 1) (some s) (by omega) nx
                | exact ih (s + 1) cq (by omega) nx
                | exact ih (s + 1) (some m) (by omega) nx
            · obtain ⟨m, rfl⟩ : ∃ m, cq = some m := by
                cases cq with
                | none => exact absurd (show (-1 : Int32) < 0 by decide) c_100
                | some m => exact ⟨m, rfl⟩
              have hlm := hbq m rfl
              have hm7 := pop7_le m
              refine hv_iload dX12_calm_103 rfl ?_
              refine hv_cs1 (d_bits (m := s) (by omega)) dX12_calm_105 ml_X12_394 mk_X12_bits rfl rfl rfl ?_
              rintro _ _ _ _ ⟨rfl, rfl, rfl, rfl⟩
              refine hv_iload dX12_calm_108 rfl ?_
              refine hv_cs1 (d_bits (m := m) (by omega)) dX12_calm_110 ml_X12_394 mk_X12_bits rfl rfl rfl ?_
              rintro _ _ _ _ ⟨rfl, rfl, rfl, rfl⟩
              refine hv_icmp_lt (tgt := 139) dX12_calm_113 (by decide) (fun c_113 => ?_) (fun c_113 => ?_)
              · have hah : fAhd s m = true := by unfold fAhd; rw [decide_eq_true c_113]; rfl
                rw [if_pos ⟨e0, e3, fun b hb => by rw [← Option.some.inj hb]; exact hah, e4⟩] at nx
                refine hv_iload dX12_calm_139 rfl ?_
                refine hv_istore dX12_calm_141 rfl rfl ?_
                refine hv_iinc dX12_calm_143 rfl (nI_1 s) rfl rfl ?_
                refine hv_goto (tgt := 47) dX12_calm_146 (by decide) ?_
                first
                  | exact ih (s + 1) (some s) (by omega) nx
                  | exact ih (s + 1) cq (by omega) nx
                  | exact ih (s + 1) (some m) (by omega) nx
              · refine hv_iload dX12_calm_116 rfl ?_
                refine hv_cs1 (d_bits (m := s) (by omega)) dX12_calm_118 ml_X12_394 mk_X12_bits rfl rfl rfl ?_
                rintro _ _ _ _ ⟨rfl, rfl, rfl, rfl⟩
                refine hv_iload dX12_calm_121 rfl ?_
                refine hv_cs1 (d_bits (m := m) (by omega)) dX12_calm_123 ml_X12_394 mk_X12_bits rfl rfl rfl ?_
                rintro _ _ _ _ ⟨rfl, rfl, rfl, rfl⟩
                refine hv_icmp_ne (tgt := 143) dX12_calm_126 (by decide) (fun c_126 => ?_) (fun c_126 => ?_)
                · have hah : fAhd s m = false := by unfold fAhd; rw [decide_eq_false c_113, decide_eq_false c_126]; rfl
                  rw [if_neg (fun qq => by rw [qq.2.2.1 m rfl] at hah; exact absurd hah (by decide))] at nx
                  refine hv_iinc dX12_calm_143 rfl (nI_1 s) rfl rfl ?_
                  refine hv_goto (tgt := 47) dX12_calm_146 (by decide) ?_
                  first
                    | exact ih (s + 1) (some s) (by omega) nx
                    | exact ih (s + 1) cq (by omega) nx
                    | exact ih (s + 1) (some m) (by omega) nx
                · have hea := fEar_ok s (by omega) e3 m (by omega) ((nI_eq (by omega) (by omega)).mp c_126)
                  refine hv_iload dX12_calm_129 rfl ?_
                  refine hv_iload dX12_calm_131 rfl ?_
                  refine hv_cs2 (d_isEarlier (m := s) (o := m) (by omega) (by omega)) dX12_calm_133 ml_X12_403 mk_X12_isEarlier rfl rfl rfl ?_
                  rintro _ _ _ _ ⟨rfl, rfl, rfl, rfl⟩
                  refine hv_if_eq (tgt := 143) dX12_calm_136 (by decide) (fun c_136 => ?_) (fun c_136 => ?_)
                  · have hah : fAhd s m = false := by unfold fAhd; rw [decide_eq_false c_113, decide_eq_true c_126, ← hea, bI_0 c_136]; rfl
                    rw [if_neg (fun qq => by rw [qq.2.2.1 m rfl] at hah; exact absurd hah (by decide))] at nx
                    refine hv_iinc dX12_calm_143 rfl (nI_1 s) rfl rfl ?_
                    refine hv_goto (tgt := 47) dX12_calm_146 (by decide) ?_
                    first
                      | exact ih (s + 1) (some s) (by omega) nx
                      | exact ih (s + 1) cq (by omega) nx
                      | exact ih (s + 1) (some m) (by omega) nx
                  · have hah : fAhd s m = true := by unfold fAhd; rw [decide_eq_false c_113, decide_eq_true c_126, ← hea, bI_1 c_136]; rfl
                    rw [if_pos ⟨e0, e3, fun b hb => by rw [← Option.some.inj hb]; exact hah, e4⟩] at nx
                    refine hv_iload dX12_calm_139 rfl ?_
                    refine hv_istore dX12_calm_141 rfl rfl ?_
                    refine hv_iinc dX12_calm_143 rfl (nI_1 s) rfl rfl ?_
                    refine hv_goto (tgt := 47) dX12_calm_146 (by decide) ?_
                    first
                      | exact ih (s + 1) (some s) (by omega) nx
                      | exact ih (s + 1) cq (by omega) nx
                      | exact ih (s + 1) (some m) (by omega) nx
          · rw [if_neg (fun qq => by rw [qq.2.2.2] at c_92; exact absurd c_92 (by decide))] at nx
            refine hv_goto (tgt := 143) dX12_calm_95 (by decide) ?_
            refine hv_iinc dX12_calm_143 rfl (nI_1 s) rfl rfl ?_
            refine hv_goto (tgt := 47) dX12_calm_146 (by decide) ?_
            first
              | exact ih (s + 1) (some s) (by omega) nx
              | exact ih (s + 1) cq (by omega) nx
              | exact ih (s + 1) (some m) (by omega) nx
  refine hv_aload_n dX12_calm_0 rfl ?_
  refine hv_iload_n dX12_calm_1 rfl ?_
  refine hv_cv1 (okPM_is ok) dX12_calm_2 ml_X12_370 mk_X12_isHouse (by first | rfl | assumption) rfl rfl rfl rfl rfl ?_
  rintro _ _ _ _ ⟨rfl, rfl, rfl, rfl⟩
  refine hv_if_eq (tgt := 30) dX12_calm_5 (by decide) (fun c_5 => ?_) (fun c_5 => ?_)
  · rw [if_neg (fun qq => by rw [bI_0 c_5] at qq; exact absurd qq.1 (by decide))]
    refine hv_iconst (v := -1) dX12_calm_30 (by decide) ?_
    refine hv_iret dX12_calm_31 rfl ?_
    exact ⟨rfl, rfl, rfl, rfl⟩
  · refine hv_aload_n dX12_calm_8 rfl ?_
    refine hv_iload_n dX12_calm_9 rfl ?_
    refine hv_cv1 (okPM_is ok) dX12_calm_10 ml_X12_370 mk_X12_isHouse (by first | rfl | assumption) rfl rfl rfl rfl rfl ?_
    rintro _ _ _ _ ⟨rfl, rfl, rfl, rfl⟩
    refine hv_if_eq (tgt := 30) dX12_calm_13 (by decide) (fun c_13 => ?_) (fun c_13 => ?_)
    · rw [if_neg (fun qq => by rw [bI_0 c_13] at qq; exact absurd qq.2.1 (by decide))]
      refine hv_iconst (v := -1) dX12_calm_30 (by decide) ?_
      refine hv_iret dX12_calm_31 rfl ?_
      exact ⟨rfl, rfl, rfl, rfl⟩
    · refine hv_iload_n dX12_calm_16 rfl ?_
      refine hv_iload_n dX12_calm_17 rfl ?_
      refine hv_icmp_eq (tgt := 30) dX12_calm_18 (by decide) (fun c_18 => ?_) (fun c_18 => ?_)
      · rw [if_neg (fun qq => qq.2.2.1 c_18)]
        refine hv_iconst (v := -1) dX12_calm_30 (by decide) ?_
        refine hv_iret dX12_calm_31 rfl ?_
        exact ⟨rfl, rfl, rfl, rfl⟩
      · refine hv_iload_n dX12_calm_21 rfl ?_
        refine hv_iconst (v := -1) dX12_calm_22 (by decide) ?_
        refine hv_iconst (v := 2) dX12_calm_23 (by decide) ?_
        refine hv_cs3 (d_in) dX12_calm_24 ml_X12_319 mk_X12_in rfl rfl rfl ?_
        rintro _ _ _ _ ⟨rfl, rfl, rfl, rfl⟩
        refine hv_if_ne (tgt := 32) dX12_calm_27 (by decide) (fun c_27 => ?_) (fun c_27 => ?_)
        · rw [if_pos ⟨bI_1 c_5, bI_1 c_13, c_18, bI_1 c_27⟩]
          obtain ⟨ia, hia, rfl⟩ := isH_ix k2 (bI_1 c_5)
          obtain ⟨io, hio, rfl⟩ := isH_ix k2 (bI_1 c_13)
          rw [nI_clamp (by omega), nI_clamp (by omega)]
          refine hv_iconst (v := 1) dX12_calm_32 (by decide) ?_
          refine hv_iload_n dX12_calm_33 rfl ?_
          refine hv_ishl dX12_calm_34 ?_
          refine hv_iconst (v := 1) dX12_calm_35 (by decide) ?_
          refine hv_iload_n dX12_calm_36 rfl ?_
          refine hv_ishl dX12_calm_37 ?_
          refine hv_ior dX12_calm_38 ?_
          rw [b_shl (by omega), b_shl (by omega), b_or (by have := pow_lt7 (i := ia) (by omega); omega) (by have := pow_lt7 (i := io) (by omega); omega)]
          refine hv_istore dX12_calm_39 rfl rfl ?_
          refine hv_iconst (v := -1) dX12_calm_41 (by decide) ?_
          refine hv_istore dX12_calm_42 rfl rfl ?_
          refine hv_iconst (v := 0) dX12_calm_44 (by decide) ?_
          refine hv_istore dX12_calm_45 rfl rfl ?_
          exact loop ia io hia hio (bI_1 c_27) _ rfl (2 ^ h) 0 none (by omega) rfl
        · rw [if_neg (fun qq => by rw [bI_0 c_27] at qq; exact absurd qq.2.2.2 (by decide))]
          refine hv_iconst (v := -1) dX12_calm_30 (by decide) ?_
          refine hv_iret dX12_calm_31 rfl ?_
          exact ⟨rfl, rfl, rfl, rfl⟩
end S52

