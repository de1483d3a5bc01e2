abbrev m_X3_eaters (Q : hPo) : hMe := (hrm 1, 0, 0, yX3_eaters, cX3_eaters, 8, (some FieldType.int), shp, none, Q)
abbrev m_X3_eatsIn (Q : hPo) : hMe := (hrm 2, 0, 0, yX3_eatsIn, cX3_eatsIn, 5, (some FieldType.boolean), shp, none, Q)
abbrev m_X3_widest (Q : hPo) : hMe := (hrm 2, 0, 0, yX3_widest, cX3_widest, 6, (some FieldType.int), shp, none, Q)
abbrev m_X3_quietFor (Q : hPo) : hMe := (hrm 3, 0, 0, yX3_quietFor, cX3_quietFor, 5, (some FieldType.int), shp, none, Q)
abbrev m_X3_suspects (Q : hPo) : hMe := (hrm 2, 0, 0, yX3_suspects, cX3_suspects, 5, (some FieldType.int), shp, none, Q)
abbrev m_X3_fits (Q : hPo) : hMe := (hrm 0, 0, 0, yX3_fits, cX3_fits, 5, (some FieldType.boolean), shp, none, Q)
abbrev m_X3_member (Q : hPo) : hMe := (hrm 0, 0, 0, yX3_member, cX3_member, 5, (some FieldType.int), shp, none, Q)
abbrev m_X3_note (Q : hPo) : hMe := (hrm 0, 0, 0, yX3_note, cX3_note, 3, (some FieldType.int), shp, none, Q)
abbrev m_X3_bestQuestion (Q : hPo) : hMe := (hrm 4, 0, 0, yX3_bestQuestion, cX3_bestQuestion, 8, (some FieldType.int), shp, none, Q)
/-- one HOUSE is asked whether it eats -/
def eStp (hd fe : Nat → Nat) (cm : Nat) (E i : Nat) : Nat := if cm.testBit i = false ∧ fe i ≤ pop7 (hd i &&& E) then E ||| 2 ^ i else E
def eRnd (hd fe : Nat → Nat) (cm : Nat) (E : Nat) : Nat → Nat
  | 0 => E
  | n + 1 => eStp hd fe cm (eRnd hd fe cm E n) n
def eIt (hd fe : Nat → Nat) (cm h : Nat) (E : Nat) : Nat → Nat
  | 0 => E
  | n + 1 => eRnd hd fe cm (eIt hd fe cm h E n) h
def fEat (hd fe : Nat → Nat) (h cm b : Nat) : Nat := eIt hd fe cm h (2 ^ b) h
theorem eStp_lt {hd fe : Nat → Nat} {cm E i : Nat} (hE : E < 128) (hi : i < 7) : eStp hd fe cm E i < 128 := by
  unfold eStp
  split
  · exact or_lt128 hE (pow_lt7 hi)
  · exact hE
theorem eRnd_lt {hd fe : Nat → Nat} {cm E : Nat} (hE : E < 128) : ∀ n, n ≤ 7 → eRnd hd fe cm E n < 128
  | 0, _ => hE
  | n + 1, hn => eStp_lt (eRnd_lt hE n (by omega)) (by omega)
theorem eIt_lt {hd fe : Nat → Nat} {cm h E : Nat} (hE : E < 128) (hh : h ≤ 7) : ∀ n, eIt hd fe cm h E n < 128
  | 0 => hE
  | n + 1 => eRnd_lt (eIt_lt hE hh n) h hh
theorem fEat_lt {hd fe : Nat → Nat} {h cm b : Nat} (hb : b < 7) (hh : h ≤ 7) : fEat hd fe h cm b < 128 := eIt_lt (pow_lt7 hb) hh h
/-- who hears of whom, and the fears, as numbers -/
def okP (σ : hS) (h : Nat) (hd fe : Nat → Nat) : Prop := σ 38 7 = nI h ∧ h ≤ 7 ∧ ∀ a, a < h → σ 43 a = nI (hd a) ∧ hd a < 128 ∧ σ 42 a = nI (fe a) ∧ fe a ≤ 9
section S17
variable {G : hGl} {σ : hS} {τ : hT} {x y : Option Nat}
theorem c_eaters {h b cm : Nat} {hd fe : Nat → Nat} (ok : okP σ h hd fe) (hb : b < 7) (hcm : cm < 128) : hCal G (m_X3_eaters (hEq (some (.int (nI (fEat hd fe h cm b)))) (rr 38 51 x y) σ τ)) [.ref (hgA G 35), .ref (hgA G 38), .int (nI b), .int (nI cm)] shp (rr 38 51 x y) σ τ := by
  obtain ⟨h38, k2, hpf⟩ := ok
  refine hv_enter pn_X3 rfl ?_
  have inner : ∀ k i E rd, i + k = h → E < 128 → (∀ E', E' = eRnd hd fe cm (eIt hd fe cm h (2 ^ b) rd) h → hV G (m_X3_eaters (hEq (some (.int (nI (fEat hd fe h cm b)))) (rr 38 51 x y) σ τ)) 0 0 shp 88 [some (.ref (hgA G 35)), some (.ref (hgA G 38)), some (.int (nI b)), some (.int (nI cm)), some (.int (nI E')), some (.int (nI rd)), some (.int (nI h)), none] [] (rr 38 51 x y) σ τ) → E = eRnd hd fe cm (eIt hd fe cm h (2 ^ b) rd) i → hV G (m_X3_eaters (hEq (some (.int (nI (fEat hd fe h cm b)))) (rr 38 51 x y) σ τ)) 0 0 shp 20 [some (.ref (hgA G 35)), some (.ref (hgA G 38)), some (.int (nI b)), some (.int (nI cm)), some (.int (nI E)), some (.int (nI rd)), some (.int (nI i)), none] [] (rr 38 51 x y) σ τ := by
    intro k
    induction k with
    | zero =>
      intro i E rd hi hE kk he
      obtain rfl : i = h := by omega
      refine hv_iload dX3_eaters_20 rfl ?_
      refine hv_aload_n dX3_eaters_22 rfl ?_
      refine hv_geti dX3_eaters_23 fl_X3_19 (by first | rfl | assumption) rfl ?_
      refine hv_icmp_ge (tgt := 88) dX3_eaters_26 (by decide) (fun c_26 => ?_) (fun c_26 => absurd ((by rw [h38]; exact nI_le (Nat.le_refl _) (by omega))) c_26)
      exact kk E he
    | succ k ih =>
      intro i E rd hi hE kk he
      obtain ⟨p1, p2, p3, p4⟩ := hpf i (by omega)
      have hsh := b_shr (m := cm) (i := i) (by omega) (by omega)
      rw [div_mod2] at hsh
      have nx : eRnd hd fe cm (eIt hd fe cm h (2 ^ b) rd) (i + 1) = eStp hd fe cm E i := by rw [eRnd, ← he]
      have hor : nI E ||| (1 : Int32) <<< (nI i &&& 31) = nI (E ||| 2 ^ i) := by
        rw [b_shl (by omega), b_or (by omega) (by have := pow_lt7 (i := i) (by omega); omega)]
      refine hv_iload dX3_eaters_20 rfl ?_
      refine hv_aload_n dX3_eaters_22 rfl ?_
      refine hv_geti dX3_eaters_23 fl_X3_19 (by first | rfl | assumption) rfl ?_
      refine hv_icmp_ge (tgt := 88) dX3_eaters_26 (by decide) (fun c_26 => absurd c_26 ((by rw [h38]; exact nI_ge (by omega) (by omega)))) (fun c_26 => ?_)
      refine hv_iload_n dX3_eaters_29 rfl ?_
      refine hv_iload dX3_eaters_30 rfl ?_
      refine hv_ishr dX3_eaters_32 ?_
      refine hv_iconst (v := 1) dX3_eaters_33 (by decide) ?_
      refine hv_iand dX3_eaters_34 ?_
      rw [hsh]
      refine hv_if_ne (tgt := 42) dX3_eaters_35 (by decide) (fun c_35 => ?_) (fun c_35 => ?_)
      · have t0 : ¬ (cm.testBit i = false ∧ fe i ≤ pop7 (hd i &&& E)) := fun q => c_35 (by rw [if_neg (by simp [q.1])]; rfl)
        have d0 : (0 : Int32) = 0 := rfl
        refine hv_iconst (v := 0) dX3_eaters_42 (by decide) ?_
        refine hv_istore dX3_eaters_43 rfl rfl ?_
        refine hv_iload dX3_eaters_45 rfl ?_
        refine hv_if_eq (tgt := 82) dX3_eaters_47 (by decide) (fun c_47 => ?_) (fun c_47 => ?_)
        · refine hv_iinc dX3_eaters_82 rfl (nI_1 i) rfl rfl ?_
          refine hv_goto (tgt := 20) dX3_eaters_85 (by decide) ?_
          refine hv_drop 7 ?_
          first
            | exact ih (i + 1) E2 rd (by omega) (by rw [← hE2]; exact or_lt128 hE (pow_lt7 (by omega))) kk (by rw [nx, eStp, if_pos t2, hE2])
            | exact ih (i + 1) E rd (by omega) hE kk (by rw [nx, eStp, if_neg t2])
            | exact ih (i + 1) E rd (by omega) hE kk (by rw [nx, eStp, if_neg t0])
            | exact absurd c_47 d1
        · have t1 : cm.testBit i = false := by first | exact t1 | exact absurd rfl c_47
          refine hv_aload_n dX3_eaters_50 rfl ?_
          refine hv_getr dX3_eaters_51 fl_X3_25 (by first | rfl | assumption) rfl (by first | rfl | assumption) ?_
          refine hv_iload dX3_eaters_54 rfl ?_
          refine hv_iald dX3_eaters_56 (by first | rfl | assumption) rfl (by first | assumption | omega) (by first | decide | assumption) ?_
          rw [p1]
          refine hv_iload dX3_eaters_57 rfl ?_
          refine hv_iand dX3_eaters_59 ?_
          rw [b_and (by omega) (by omega)]
          refine hv_cs1 (c_bitCount (and_lt128 p2)) dX3_eaters_60 ml_X3_28 mk_J6_bitCount_0f7a4 rfl rfl rfl ?_
          rintro _ _ _ _ ⟨rfl, rfl, rfl, rfl⟩
          refine hv_aload_n dX3_eaters_63 rfl ?_
          refine hv_getr dX3_eaters_64 fl_X3_34 (by first | rfl | assumption) rfl (by first | rfl | assumption) ?_
          refine hv_iload dX3_eaters_67 rfl ?_
          refine hv_iald dX3_eaters_69 (by first | rfl | assumption) rfl (by first | assumption | omega) (by first | decide | assumption) ?_
          rw [p3]
          refine hv_icmp_lt (tgt := 82) dX3_eaters_70 (by decide) (fun c_70 => ?_) (fun c_70 => ?_)
          · have t2 : ¬ (cm.testBit i = false ∧ fe i ≤ pop7 (hd i &&& E)) := fun q => nI_nlt q.2 (by have := pop7_le (hd i &&& E); omega) c_70
            refine hv_iinc dX3_eaters_82 rfl (nI_1 i) rfl rfl ?_
            refine hv_goto (tgt := 20) dX3_eaters_85 (by decide) ?_
            refine hv_drop 7 ?_
            first
              | exact ih (i + 1) E2 rd (by omega) (by rw [← hE2]; exact or_lt128 hE (pow_lt7 (by omega))) kk (by rw [nx, eStp, if_pos t2, hE2])
              | exact ih (i + 1) E rd (by omega) hE kk (by rw [nx, eStp, if_neg t2])
              | exact ih (i + 1) E rd (by omega) hE kk (by rw [nx, eStp, if_neg t0])
              | exact absurd c_47 d1
          · have t2 : cm.testBit i = false ∧ fe i ≤ pop7 (hd i &&& E) := ⟨t1, (nI_leI (by omega) (by have := pop7_le (hd i &&& E); omega)).mp (Int32.not_lt.mp c_70)⟩
            refine hv_iload dX3_eaters_73 rfl ?_
            refine hv_iconst (v := 1) dX3_eaters_75 (by decide) ?_
            refine hv_iload dX3_eaters_76 rfl ?_
            refine hv_ishl dX3_eaters_78 ?_
            refine hv_ior dX3_eaters_79 ?_
            rw [hor]
            obtain ⟨E2, hE2⟩ : ∃ E2, E ||| 2 ^ i = E2 := ⟨_, rfl⟩
            rw [hE2]
            refine hv_istore dX3_eaters_80 rfl rfl ?_
            refine hv_iinc dX3_eaters_82 rfl (nI_1 i) rfl rfl ?_
            refine hv_goto (tgt := 20) dX3_eaters_85 (by decide) ?_
            refine hv_drop 7 ?_
            first
              | exact ih (i + 1) E2 rd (by omega) (by rw [← hE2]; exact or_lt128 hE (pow_lt7 (by omega))) kk (by rw [nx, eStp, if_pos t2, hE2])
              | exact ih (i + 1) E rd (by omega) hE kk (by rw [nx, eStp, if_neg t2])
              | exact ih (i + 1) E rd (by omega) hE kk (by rw [nx, eStp, if_neg t0])
              | exact absurd c_47 d1
      · have t1 : cm.testBit i = false := by
          cases q : cm.testBit i with
          | false => rfl
          | true => rw [q] at c_35; exact absurd c_35 (by decide)
        have d1 : ¬ (1 : Int32) = 0 := by decide
        refine hv_iconst (v := 1) dX3_eaters_38 (by decide) ?_
        refine hv_goto (tgt := 43) dX3_eaters_39 (by decide) ?_
        refine hv_istore dX3_eaters_43 rfl rfl ?_
        refine hv_iload dX3_eaters_45 rfl ?_
        refine hv_if_eq (tgt := 82) dX3_eaters_47 (by decide) (fun c_47 => ?_) (fun c_47 => ?_)
        · refine hv_iinc dX3_eaters_82 rfl (nI_1 i) rfl rfl ?_
          refine hv_goto (tgt := 20) dX3_eaters_85 (by decide) ?_
          refine hv_drop 7 ?_
          first
            | exact ih (i + 1) E2 rd (by omega) (by rw [← hE2]; exact or_lt128 hE (pow_lt7 (by omega))) kk (by rw [nx, eStp, if_pos t2, hE2])
            | exact ih (i + 1) E rd (by omega) hE kk (by rw [nx, eStp, if_neg t2])
            | exact ih (i + 1) E rd (by omega) hE kk (by rw [nx, eStp, if_neg t0])
            | exact absurd c_47 d1
        · have t1 : cm.testBit i = false := by first | exact t1 | exact absurd rfl c_47
          refine hv_aload_n dX3_eaters_50 rfl ?_
          refine hv_getr dX3_eaters_51 fl_X3_25 (by first | rfl | assumption) rfl (by first | rfl | assumption) ?_
          refine hv_iload dX3_eaters_54 rfl ?_
          refine hv_iald dX3_eaters_56 (by first | rfl | assumption) rfl (by first | assumption | omega) (by first | decide | assumption) ?_
          rw [p1]
          refine hv_iload dX3_eaters_57 rfl ?_
          refine hv_iand dX3_eaters_59 ?_
          rw [b_and (by omega) (by omega)]
          refine hv_cs1 (c_bitCount (and_lt128 p2)) dX3_eaters_60 ml_X3_28 mk_J6_bitCount_0f7a4 rfl rfl rfl ?_
          rintro _ _ _ _ ⟨rfl, rfl, rfl, rfl⟩
          refine hv_aload_n dX3_eaters_63 rfl ?_
          refine hv_getr dX3_eaters_64 fl_X3_34 (by first | rfl | assumption) rfl (by first | rfl | assumption) ?_
          refine hv_iload dX3_eaters_67 rfl ?_
          refine hv_iald dX3_eaters_69 (by first | rfl | assumption) rfl (by first | assumption | omega) (by first | decide | assumption) ?_
          rw [p3]
          refine hv_icmp_lt (tgt := 82) dX3_eaters_70 (by decide) (fun c_70 => ?_) (fun c_70 => ?_)
          · have t2 : ¬ (cm.testBit i = false ∧ fe i ≤ pop7 (hd i &&& E)) := fun q => nI_nlt q.2 (by have := pop7_le (hd i &&& E); omega) c_70
            refine hv_iinc dX3_eaters_82 rfl (nI_1 i) rfl rfl ?_
            refine hv_goto (tgt := 20) dX3_eaters_85 (by decide) ?_
            refine hv_drop 7 ?_
            first
              | exact ih (i + 1) E2 rd (by omega) (by rw [← hE2]; exact or_lt128 hE (pow_lt7 (by omega))) kk (by rw [nx, eStp, if_pos t2, hE2])
              | exact ih (i + 1) E rd (by omega) hE kk (by rw [nx, eStp, if_neg t2])
              | exact ih (i + 1) E rd (by omega) hE kk (by rw [nx, eStp, if_neg t0])
              | exact absurd c_47 d1
          · have t2 : cm.testBit i = false ∧ fe i ≤ pop7 (hd i &&& E) := ⟨t1, (nI_leI (by omega) (by have := pop7_le (hd i &&& E); omega)).mp (Int32.not_lt.mp c_70)⟩
            refine hv_iload dX3_eaters_73 rfl ?_
            refine hv_iconst (v := 1) dX3_eaters_75 (by decide) ?_
            refine hv_iload dX3_eaters_76 rfl ?_
            refine hv_ishl dX3_eaters_78 ?_
            refine hv_ior dX3_eaters_79 ?_
            rw [hor]
            obtain ⟨E2, hE2⟩ : ∃ E2, E ||| 2 ^ i = E2 := ⟨_, rfl⟩
            rw [hE2]
            refine hv_istore dX3_eaters_80 rfl rfl ?_
            refine hv_iinc dX3_eaters_82 rfl (nI_1 i) rfl rfl ?_
            refine hv_goto (tgt := 20) dX3_eaters_85 (by decide) ?_
            refine hv_drop 7 ?_
            first
              | exact ih (i + 1) E2 rd (by omega) (by rw [← hE2]; exact or_lt128 hE (pow_lt7 (by omega))) kk (by rw [nx, eStp, if_pos t2, hE2])
              | exact ih (i + 1) E rd (by omega) hE kk (by rw [nx, eStp, if_neg t2])
              | exact ih (i + 1) E rd (by omega) hE kk (by rw [nx, eStp, if_neg t0])
              | exact absurd c_47 d1
  have outer : ∀ k rd, rd + k = h → hV G (m_X3_eaters (hEq (some (.int (nI (fEat hd fe h cm b)))) (rr 38 51 x y) σ τ)) 0 0 shp 8 [some (.ref (hgA G 35)), some (.ref (hgA G 38)), some (.int (nI b)), some (.int (nI cm)), some (.int (nI (eIt hd fe cm h (2 ^ b) rd))), some (.int (nI rd)), none, none] [] (rr 38 51 x y) σ τ := by
    intro k
    induction k with
    | zero =>
      intro rd hi
      obtain rfl : rd = h := by omega
      refine hv_iload dX3_eaters_8 rfl ?_
      refine hv_aload_n dX3_eaters_10 rfl ?_
      refine hv_geti dX3_eaters_11 fl_X3_19 (by first | rfl | assumption) rfl ?_
      refine hv_icmp_ge (tgt := 94) dX3_eaters_14 (by decide) (fun c_14 => ?_) (fun c_14 => absurd ((by rw [h38]; exact nI_le (Nat.le_refl _) (by omega))) c_14)
      refine hv_iload dX3_eaters_94 rfl ?_
      refine hv_iret dX3_eaters_96 rfl ?_
      exact ⟨rfl, rfl, rfl, rfl⟩
    | succ k ih =>
      intro rd hi
      refine hv_iload dX3_eaters_8 rfl ?_
      refine hv_aload_n dX3_eaters_10 rfl ?_
      refine hv_geti dX3_eaters_11 fl_X3_19 (by first | rfl | assumption) rfl ?_
      refine hv_icmp_ge (tgt := 94) dX3_eaters_14 (by decide) (fun c_14 => absurd c_14 ((by rw [h38]; exact nI_ge (by omega) (by omega)))) (fun c_14 => ?_)
      refine hv_iconst (v := 0) dX3_eaters_17 (by decide) ?_
      refine hv_istore dX3_eaters_18 rfl rfl ?_
      refine inner h 0 _ rd (by omega) (eIt_lt (pow_lt7 hb) k2 rd) ?_ rfl
      rintro E' rfl
      refine hv_iinc dX3_eaters_88 rfl (nI_1 rd) rfl rfl ?_
      refine hv_goto (tgt := 8) dX3_eaters_91 (by decide) ?_
      refine hv_drop 6 ?_
      exact ih (rd + 1) (by omega)
  refine hv_iconst (v := 1) dX3_eaters_0 (by decide) ?_
  refine hv_iload_n dX3_eaters_1 rfl ?_
  refine hv_ishl dX3_eaters_2 ?_
  rw [b_shl (by omega)]
  refine hv_istore dX3_eaters_3 rfl rfl ?_
  refine hv_iconst (v := 0) dX3_eaters_5 (by decide) ?_
  refine hv_istore dX3_eaters_6 rfl rfl ?_
  exact outer h 0 (by omega)
end S17

