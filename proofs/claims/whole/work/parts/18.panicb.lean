def bI (p : Bool) : Int32 := if p = true then 1 else 0
theorem bI_01 (p : Bool) : bI p = 0 ∨ bI p = 1 := by cases p <;> simp [bI]
theorem b_bit {m i : Nat} (hm : m < 128) (hi : i < 32) : (nI m >>> (nI i &&& 31)) &&& 1 = bI (m.testBit i) := by
  rw [b_shr (by omega) hi, div_mod2]
  unfold bI
  split <;> rfl
def fWid (f : Nat → Nat) : Nat → Nat × Nat
  | 0 => (0, 0)
  | n + 1 => if (fWid f n).2 < f n then (n, f n) else fWid f n
theorem fWid_le (f : Nat → Nat) (hf : ∀ i, f i ≤ 7) : ∀ n, (fWid f n).1 ≤ n ∧ (fWid f n).2 ≤ 7
  | 0 => by simp [fWid]
  | n + 1 => by
    have hq := fWid_le f hf n
    unfold fWid
    split
    · exact ⟨by simp, hf n⟩
    · exact ⟨by omega, hq.2⟩
def fQui (f : Nat → Nat) (a : Nat) : Nat → Nat
  | 0 => 0
  | n + 1 => fQui f a n ||| (if (f n).testBit a = true then 0 else 2 ^ n)
theorem fQui_lt (f : Nat → Nat) (a : Nat) : ∀ n, n ≤ 7 → fQui f a n < 128
  | 0, _ => by simp [fQui]
  | n + 1, hn => by
    unfold fQui
    refine or_lt128 (fQui_lt f a n (by omega)) ?_
    split
    · decide
    · exact pow_lt7 (by omega)
def fFit (E : Nat) (th : Nat → Nat) (ta : hF) : Nat → Bool
  | 0 => true
  | n + 1 => fFit E th ta n && decide (bI (E.testBit (th n)) = ta n)
def fSus (f : Nat → Nat) (th : Nat → Nat) (ta : hF) (k : Nat) : Nat → Nat
  | 0 => 0
  | n + 1 => fSus f th ta k n ||| (if fFit (f n) th ta k = true then 2 ^ n else 0)
theorem fSus_lt (f : Nat → Nat) (th : Nat → Nat) (ta : hF) (k : Nat) : ∀ n, n ≤ 7 → fSus f th ta k n < 128
  | 0, _ => by simp [fSus]
  | n + 1, hn => by
    unfold fSus
    refine or_lt128 (fSus_lt f th ta k n (by omega)) ?_
    split
    · exact pow_lt7 (by omega)
    · decide
section S18
variable {G : hGl} {σ : hS} {τ : hT} {x y : Option Nat}
theorem c_eatsIn {h b cm a : Nat} {hd fe : Nat → Nat} (ok : okP σ h hd fe) (hb : b < 7) (hcm : cm < 128) (ha : a < 7) : hCal G (m_X3_eatsIn (hEq (some (.int (bI ((fEat hd fe h cm b).testBit a)))) (rr 38 51 x y) σ τ)) [.ref (hgA G 35), .ref (hgA G 38), .int (nI b), .int (nI cm), .int (nI a)] shp (rr 38 51 x y) σ τ := by
  refine hv_enter pn_X3 rfl ?_
  refine hv_aload_n dX3_eatsIn_0 rfl ?_
  refine hv_aload_n dX3_eatsIn_1 rfl ?_
  refine hv_iload_n dX3_eatsIn_2 rfl ?_
  refine hv_iload_n dX3_eatsIn_3 rfl ?_
  refine hv_cv3 (c_eaters ok hb hcm) dX3_eatsIn_4 ml_X3_37 mk_X3_eaters (by first | rfl | assumption) rfl rfl rfl rfl rfl ?_
  rintro _ _ _ _ ⟨rfl, rfl, rfl, rfl⟩
  refine hv_iload dX3_eatsIn_7 rfl ?_
  refine hv_ishr dX3_eatsIn_9 ?_
  refine hv_iconst (v := 1) dX3_eatsIn_10 (by decide) ?_
  refine hv_iand dX3_eatsIn_11 ?_
  rw [b_bit (fEat_lt hb ok.2.1) (by omega)]
  refine hv_iconst (v := 1) dX3_eatsIn_12 (by decide) ?_
  refine hv_icmp_ne (tgt := 20) dX3_eatsIn_13 (by decide) (fun c_13 => ?_) (fun c_13 => ?_)
  · refine hv_iconst (v := 0) dX3_eatsIn_20 (by decide) ?_
    refine hv_zret dX3_eatsIn_21 rfl (by first | exact Or.inl rfl | exact Or.inr rfl | assumption) ?_
    refine ⟨?_, rfl, rfl, rfl⟩
    rcases bI_01 ((fEat hd fe h cm b).testBit a) with hbq | hbq
    · rw [hbq] at c_13
      first | (rw [hbq]; done) | exact absurd c_13 (by decide) | exact absurd rfl c_13
    · rw [hbq] at c_13
      first | (rw [hbq]; done) | exact absurd rfl c_13 | exact absurd c_13 (by decide)
  · refine hv_iconst (v := 1) dX3_eatsIn_16 (by decide) ?_
    refine hv_goto (tgt := 21) dX3_eatsIn_17 (by decide) ?_
    refine hv_zret dX3_eatsIn_21 rfl (by first | exact Or.inl rfl | exact Or.inr rfl | assumption) ?_
    refine ⟨?_, rfl, rfl, rfl⟩
    rcases bI_01 ((fEat hd fe h cm b).testBit a) with hbq | hbq
    · rw [hbq] at c_13
      first | (rw [hbq]; done) | exact absurd c_13 (by decide) | exact absurd rfl c_13
    · rw [hbq] at c_13
      first | (rw [hbq]; done) | exact absurd rfl c_13 | exact absurd c_13 (by decide)
theorem c_widest {h : Nat} {hd fe : Nat → Nat} (ok : okP σ h hd fe) : hCal G (m_X3_widest (hEq (some (.int (nI (fWid (fun i => pop7 (fEat hd fe h 0 i)) h).1))) (rr 38 51 x y) σ τ)) [.ref (hgA G 35), .ref (hgA G 38)] shp (rr 38 51 x y) σ τ := by
  have k2 := ok.2.1
  refine hv_enter pn_X3 rfl ?_
  have loop : ∀ k i (be mo : Nat), i + k = h → (be, mo) = fWid (fun i => pop7 (fEat hd fe h 0 i)) i → hV G (m_X3_widest (hEq (some (.int (nI (fWid (fun i => pop7 (fEat hd fe h 0 i)) h).1))) (rr 38 51 x y) σ τ)) 0 0 shp 7 [some (.ref (hgA G 35)), some (.ref (hgA G 38)), some (.int (nI be)), some (.int (nI mo)), some (.int (nI i)), none] [] (rr 38 51 x y) σ τ := by
    intro k
    induction k with
    | zero =>
      intro i be mo hi hbm
      obtain rfl : i = h := by omega
      refine hv_iload dX3_widest_7 rfl ?_
      refine hv_aload_n dX3_widest_9 rfl ?_
      refine hv_geti dX3_widest_10 fl_X3_19 (by first | rfl | assumption) rfl ?_
      refine hv_icmp_ge (tgt := 47) dX3_widest_13 (by decide) (fun c_13 => ?_) (fun c_13 => absurd ((by rw [ok.1]; exact nI_le (Nat.le_refl _) (by omega))) c_13)
      refine hv_iload_n dX3_widest_47 rfl ?_
      refine hv_iret dX3_widest_48 rfl ?_
      rw [← hbm]; exact ⟨rfl, rfl, rfl, rfl⟩
    | succ k ih =>
      intro i be mo hi hbm
      obtain ⟨pp, hpp⟩ : ∃ pp, pop7 (fEat hd fe h 0 i) = pp := ⟨_, rfl⟩
      have hpp7 : pp ≤ 7 := by rw [← hpp]; exact pop7_le _
      have hmo7 : mo ≤ 7 := by have := (fWid_le (fun i => pop7 (fEat hd fe h 0 i)) (fun _ => pop7_le _) i).2; rw [← hbm] at this; exact this
      have hnx : fWid (fun i => pop7 (fEat hd fe h 0 i)) (i + 1) = if mo < pp then (i, pp) else (be, mo) := by rw [fWid, ← hbm, hpp]
      refine hv_iload dX3_widest_7 rfl ?_
      refine hv_aload_n dX3_widest_9 rfl ?_
      refine hv_geti dX3_widest_10 fl_X3_19 (by first | rfl | assumption) rfl ?_
      refine hv_icmp_ge (tgt := 47) dX3_widest_13 (by decide) (fun c_13 => absurd c_13 ((by rw [ok.1]; exact nI_ge (by omega) (by omega)))) (fun c_13 => ?_)
      refine hv_aload_n dX3_widest_16 rfl ?_
      refine hv_aload_n dX3_widest_17 rfl ?_
      refine hv_iload dX3_widest_18 rfl ?_
      refine hv_iconst (v := 0) dX3_widest_20 (by decide) ?_
      refine hv_cv3 (c_eaters (cm := 0) ok (by omega) (by decide)) dX3_widest_21 ml_X3_37 mk_X3_eaters (by first | rfl | assumption) rfl rfl rfl rfl rfl ?_
      rintro _ _ _ _ ⟨rfl, rfl, rfl, rfl⟩
      refine hv_cs1 (c_bitCount (fEat_lt (by omega) k2)) dX3_widest_24 ml_X3_28 mk_J6_bitCount_0f7a4 rfl rfl rfl ?_
      rintro _ _ _ _ ⟨rfl, rfl, rfl, rfl⟩
      rw [hpp]
      refine hv_istore dX3_widest_27 rfl rfl ?_
      refine hv_iload dX3_widest_29 rfl ?_
      refine hv_iload_n dX3_widest_31 rfl ?_
      refine hv_icmp_le (tgt := 41) dX3_widest_32 (by decide) (fun c_32 => ?_) (fun c_32 => ?_)
      · have hq32 : ¬ mo < pp := fun q => nI_ge q (by omega) c_32
        rw [if_neg hq32] at hnx
        refine hv_iinc dX3_widest_41 rfl (nI_1 i) rfl rfl ?_
        refine hv_goto (tgt := 7) dX3_widest_44 (by decide) ?_
        refine hv_drop 5 ?_
        first
          | exact ih (i + 1) be mo (by omega) hnx.symm
          | exact ih (i + 1) i pp (by omega) hnx.symm
      · have hq32 : mo < pp := Nat.not_le.mp fun q => c_32 (nI_le q (by omega))
        rw [if_pos hq32] at hnx
        refine hv_iload dX3_widest_35 rfl ?_
        refine hv_istore_n dX3_widest_37 rfl rfl ?_
        refine hv_iload dX3_widest_38 rfl ?_
        refine hv_istore_n dX3_widest_40 rfl rfl ?_
        refine hv_iinc dX3_widest_41 rfl (nI_1 i) rfl rfl ?_
        refine hv_goto (tgt := 7) dX3_widest_44 (by decide) ?_
        refine hv_drop 5 ?_
        first
          | exact ih (i + 1) be mo (by omega) hnx.symm
          | exact ih (i + 1) i pp (by omega) hnx.symm
  refine hv_iconst (v := 0) dX3_widest_0 (by decide) ?_
  refine hv_istore_n dX3_widest_1 rfl rfl ?_
  refine hv_iconst (v := 0) dX3_widest_2 (by decide) ?_
  refine hv_istore_n dX3_widest_3 rfl rfl ?_
  refine hv_iconst (v := 0) dX3_widest_4 (by decide) ?_
  refine hv_istore dX3_widest_5 rfl rfl ?_
  exact loop h 0 0 0 (by omega) rfl
theorem c_quietFor {h a : Nat} {hd fe : Nat → Nat} (ok : okP σ h hd fe) (ha : a < 7) : hCal G (m_X3_quietFor (hEq (some (.int (nI (fQui (fun i => fEat hd fe h 0 i) a h)))) (rr 38 51 x y) σ τ)) [.ref (hgA G 35), .ref (hgA G 38), .int (nI a)] shp (rr 38 51 x y) σ τ := by
  have k2 := ok.2.1
  refine hv_enter pn_X3 rfl ?_
  have loop : ∀ k i (qs : Nat), i + k = h → qs = fQui (fun i => fEat hd fe h 0 i) a i → hV G (m_X3_quietFor (hEq (some (.int (nI (fQui (fun i => fEat hd fe h 0 i) a h)))) (rr 38 51 x y) σ τ)) 0 0 shp 5 [some (.ref (hgA G 35)), some (.ref (hgA G 38)), some (.int (nI a)), some (.int (nI qs)), some (.int (nI i))] [] (rr 38 51 x y) σ τ := by
    intro k
    induction k with
    | zero =>
      intro i qs hi hqs
      obtain rfl : i = h := by omega
      refine hv_iload dX3_quietFor_5 rfl ?_
      refine hv_aload_n dX3_quietFor_7 rfl ?_
      refine hv_geti dX3_quietFor_8 fl_X3_19 (by first | rfl | assumption) rfl ?_
      refine hv_icmp_ge (tgt := 43) dX3_quietFor_11 (by decide) (fun c_11 => ?_) (fun c_11 => absurd ((by rw [ok.1]; exact nI_le (Nat.le_refl _) (by omega))) c_11)
      refine hv_iload_n dX3_quietFor_43 rfl ?_
      refine hv_iret dX3_quietFor_44 rfl ?_
      rw [← hqs]; exact ⟨rfl, rfl, rfl, rfl⟩
    | succ k ih =>
      intro i qs hi hqs
      have hlt : qs < 128 := by rw [hqs]; exact fQui_lt _ _ _ (by omega)
      have hp7 := pow_lt7 (i := i) (by omega)
      refine hv_iload dX3_quietFor_5 rfl ?_
      refine hv_aload_n dX3_quietFor_7 rfl ?_
      refine hv_geti dX3_quietFor_8 fl_X3_19 (by first | rfl | assumption) rfl ?_
      refine hv_icmp_ge (tgt := 43) dX3_quietFor_11 (by decide) (fun c_11 => absurd c_11 ((by rw [ok.1]; exact nI_ge (by omega) (by omega)))) (fun c_11 => ?_)
      refine hv_iload_n dX3_quietFor_14 rfl ?_
      refine hv_aload_n dX3_quietFor_15 rfl ?_
      refine hv_aload_n dX3_quietFor_16 rfl ?_
      refine hv_iload dX3_quietFor_17 rfl ?_
      refine hv_iconst (v := 0) dX3_quietFor_19 (by decide) ?_
      refine hv_iload_n dX3_quietFor_20 rfl ?_
      refine hv_cv4 (c_eatsIn (cm := 0) ok (by omega) (by decide) ha) dX3_quietFor_21 ml_X3_45 mk_X3_eatsIn (by first | rfl | assumption) rfl rfl rfl rfl rfl ?_
      rintro _ _ _ _ ⟨rfl, rfl, rfl, rfl⟩
      refine hv_if_eq (tgt := 31) dX3_quietFor_24 (by decide) (fun c_24 => ?_) (fun c_24 => ?_)
      · have hbt : ¬ (fEat hd fe h 0 i).testBit a = true := fun hqq => by rw [hqq] at c_24; exact absurd c_24 (by decide)
        have hor : nI qs ||| (1 : Int32) <<< (nI i &&& 31) = nI (qs ||| 2 ^ i) := by rw [b_shl (by omega), b_or (by omega) (by omega)]
        have hnx : qs ||| 2 ^ i = fQui (fun i => fEat hd fe h 0 i) a (i + 1) := by rw [fQui, ← hqs, if_neg hbt]
        refine hv_iconst (v := 1) dX3_quietFor_31 (by decide) ?_
        refine hv_iload dX3_quietFor_32 rfl ?_
        refine hv_ishl dX3_quietFor_34 ?_
        refine hv_ior dX3_quietFor_35 ?_
        rw [hor, hnx]
        refine hv_istore_n dX3_quietFor_36 rfl rfl ?_
        refine hv_iinc dX3_quietFor_37 rfl (nI_1 i) rfl rfl ?_
        refine hv_goto (tgt := 5) dX3_quietFor_40 (by decide) ?_
        exact ih (i + 1) _ (by omega) rfl
      · have hbt : (fEat hd fe h 0 i).testBit a = true := by
          cases hqq : (fEat hd fe h 0 i).testBit a with
          | true => rfl
          | false => rw [hqq] at c_24; exact absurd rfl c_24
        have hor : nI qs ||| (0 : Int32) = nI (qs ||| 0) := b_or (b := 0) (by omega) (by decide)
        have hnx : qs ||| 0 = fQui (fun i => fEat hd fe h 0 i) a (i + 1) := by rw [fQui, ← hqs, if_pos hbt]
        refine hv_iconst (v := 0) dX3_quietFor_27 (by decide) ?_
        refine hv_goto (tgt := 35) dX3_quietFor_28 (by decide) ?_
        refine hv_ior dX3_quietFor_35 ?_
        rw [hor, hnx]
        refine hv_istore_n dX3_quietFor_36 rfl rfl ?_
        refine hv_iinc dX3_quietFor_37 rfl (nI_1 i) rfl rfl ?_
        refine hv_goto (tgt := 5) dX3_quietFor_40 (by decide) ?_
        exact ih (i + 1) _ (by omega) rfl
  refine hv_iconst (v := 0) dX3_quietFor_0 (by decide) ?_
  refine hv_istore_n dX3_quietFor_1 rfl rfl ?_
  refine hv_iconst (v := 0) dX3_quietFor_2 (by decide) ?_
  refine hv_istore dX3_quietFor_3 rfl rfl ?_
  exact loop h 0 0 (by omega) rfl
theorem c_fits {E k : Nat} {th : Nat → Nat} {ta : hF} (hE : E < 128) (hk : k ≤ 20) (h36 : ∀ i, i < k → σ 36 i = nI (th i) ∧ th i < 7) (h37 : ∀ i, i < k → σ 37 i = ta i) : hCal G (m_X3_fits (hEq (some (.int (bI (fFit E th ta k)))) (rr 38 51 x y) σ τ)) [.ref (hgA G 35), .int (nI E), .int (nI k)] shp (rr 38 51 x y) σ τ := by
  refine hv_enter pn_X3 rfl ?_
  have loop : ∀ n i (fi : Bool), i + n = k → fi = fFit E th ta i → hV G (m_X3_fits (hEq (some (.int (bI (fFit E th ta k)))) (rr 38 51 x y) σ τ)) 0 0 shp 5 [some (.ref (hgA G 35)), some (.int (nI E)), some (.int (nI k)), some (.int (bI fi)), some (.int (nI i))] [] (rr 38 51 x y) σ τ := by
    intro n
    induction n with
    | zero =>
      intro i fi hi hfi
      obtain rfl : i = k := by omega
      refine hv_iload dX3_fits_5 rfl ?_
      refine hv_iload_n dX3_fits_7 rfl ?_
      refine hv_icmp_ge (tgt := 62) dX3_fits_8 (by decide) (fun c_8 => ?_) (fun c_8 => absurd ((nI_le (Nat.le_refl _) (by omega))) c_8)
      refine hv_iload_n dX3_fits_62 rfl ?_
      refine hv_zret dX3_fits_63 rfl (bI_01 _) ?_
      rw [← hfi]; exact ⟨rfl, rfl, rfl, rfl⟩
    | succ n ih =>
      intro i fi hi hfi
      obtain ⟨hth, hth7⟩ := h36 i (by omega)
      have hta := h37 i (by omega)
      have hnx : fFit E th ta (i + 1) = (fi && decide (bI (E.testBit (th i)) = ta i)) := by rw [fFit, ← hfi]
      have hz : ∀ (u v : Bool), bI u &&& bI v = bI (u && v) := by decide
      refine hv_iload dX3_fits_5 rfl ?_
      refine hv_iload_n dX3_fits_7 rfl ?_
      refine hv_icmp_ge (tgt := 62) dX3_fits_8 (by decide) (fun c_8 => absurd c_8 ((nI_ge (by omega) (by omega)))) (fun c_8 => ?_)
      refine hv_iload dX3_fits_11 rfl ?_
      refine hv_bipush (v := 20) dX3_fits_13 (by decide) ?_
      refine hv_icmp_ge (tgt := 62) dX3_fits_15 (by decide) (fun c_15 => absurd c_15 ((nI_ge (b := 20) (by omega) (by decide)))) (fun c_15 => ?_)
      refine hv_iload_n dX3_fits_18 rfl ?_
      refine hv_iload_n dX3_fits_19 rfl ?_
      refine hv_aload_n dX3_fits_20 rfl ?_
      refine hv_getr dX3_fits_21 fl_X3_9 (by first | rfl | assumption) rfl (by first | rfl | assumption) ?_
      refine hv_iload dX3_fits_24 rfl ?_
      refine hv_iald dX3_fits_26 (by first | rfl | assumption) rfl (by first | assumption | omega) (by first | decide | assumption) ?_
      rw [hth]
      refine hv_ishr dX3_fits_27 ?_
      refine hv_iconst (v := 1) dX3_fits_28 (by decide) ?_
      refine hv_iand dX3_fits_29 ?_
      rw [b_bit hE (by omega)]
      refine hv_iconst (v := 1) dX3_fits_30 (by decide) ?_
      refine hv_icmp_ne (tgt := 38) dX3_fits_31 (by decide) (fun c_31 => ?_) (fun c_31 => ?_)
      · have hq31 : bI (E.testBit (th i)) = 0 := (bI_01 _).resolve_right c_31
        refine hv_iconst (v := 0) dX3_fits_38 (by decide) ?_
        refine hv_aload_n dX3_fits_39 rfl ?_
        refine hv_getr dX3_fits_40 fl_X3_15 (by first | rfl | assumption) rfl (by first | rfl | assumption) ?_
        refine hv_iload dX3_fits_43 rfl ?_
        refine hv_zald dX3_fits_45 (by first | rfl | assumption) rfl (by first | assumption | omega) (by first | decide | assumption) ?_
        rw [hta]
        refine hv_icmp_ne (tgt := 53) dX3_fits_46 (by decide) (fun c_46 => ?_) (fun c_46 => ?_)
        · have hq46 : (0 : Int32) = bI (decide (bI (E.testBit (th i)) = ta i)) := by rw [hq31, decide_eq_false c_46]; rfl
          refine hv_iconst (v := 0) dX3_fits_53 (by decide) ?_
          rw [hq46]
          refine hv_iand dX3_fits_54 ?_
          rw [hz, ← hnx]
          refine hv_istore_n dX3_fits_55 rfl rfl ?_
          refine hv_iinc dX3_fits_56 rfl (nI_1 i) rfl rfl ?_
          refine hv_goto (tgt := 5) dX3_fits_59 (by decide) ?_
          exact ih (i + 1) _ (by omega) rfl
        · have hq46 : (1 : Int32) = bI (decide (bI (E.testBit (th i)) = ta i)) := by rw [hq31, decide_eq_true c_46]; rfl
          refine hv_iconst (v := 1) dX3_fits_49 (by decide) ?_
          refine hv_goto (tgt := 54) dX3_fits_50 (by decide) ?_
          rw [hq46]
          refine hv_iand dX3_fits_54 ?_
          rw [hz, ← hnx]
          refine hv_istore_n dX3_fits_55 rfl rfl ?_
          refine hv_iinc dX3_fits_56 rfl (nI_1 i) rfl rfl ?_
          refine hv_goto (tgt := 5) dX3_fits_59 (by decide) ?_
          exact ih (i + 1) _ (by omega) rfl
      · have hq31 : bI (E.testBit (th i)) = 1 := c_31
        refine hv_iconst (v := 1) dX3_fits_34 (by decide) ?_
        refine hv_goto (tgt := 39) dX3_fits_35 (by decide) ?_
        refine hv_aload_n dX3_fits_39 rfl ?_
        refine hv_getr dX3_fits_40 fl_X3_15 (by first | rfl | assumption) rfl (by first | rfl | assumption) ?_
        refine hv_iload dX3_fits_43 rfl ?_
        refine hv_zald dX3_fits_45 (by first | rfl | assumption) rfl (by first | assumption | omega) (by first | decide | assumption) ?_
        rw [hta]
        refine hv_icmp_ne (tgt := 53) dX3_fits_46 (by decide) (fun c_46 => ?_) (fun c_46 => ?_)
        · have hq46 : (0 : Int32) = bI (decide (bI (E.testBit (th i)) = ta i)) := by rw [hq31, decide_eq_false c_46]; rfl
          refine hv_iconst (v := 0) dX3_fits_53 (by decide) ?_
          rw [hq46]
          refine hv_iand dX3_fits_54 ?_
          rw [hz, ← hnx]
          refine hv_istore_n dX3_fits_55 rfl rfl ?_
          refine hv_iinc dX3_fits_56 rfl (nI_1 i) rfl rfl ?_
          refine hv_goto (tgt := 5) dX3_fits_59 (by decide) ?_
          exact ih (i + 1) _ (by omega) rfl
        · have hq46 : (1 : Int32) = bI (decide (bI (E.testBit (th i)) = ta i)) := by rw [hq31, decide_eq_true c_46]; rfl
          refine hv_iconst (v := 1) dX3_fits_49 (by decide) ?_
          refine hv_goto (tgt := 54) dX3_fits_50 (by decide) ?_
          rw [hq46]
          refine hv_iand dX3_fits_54 ?_
          rw [hz, ← hnx]
          refine hv_istore_n dX3_fits_55 rfl rfl ?_
          refine hv_iinc dX3_fits_56 rfl (nI_1 i) rfl rfl ?_
          refine hv_goto (tgt := 5) dX3_fits_59 (by decide) ?_
          exact ih (i + 1) _ (by omega) rfl
  refine hv_iconst (v := 1) dX3_fits_0 (by decide) ?_
  refine hv_istore_n dX3_fits_1 rfl rfl ?_
  refine hv_iconst (v := 0) dX3_fits_2 (by decide) ?_
  refine hv_istore dX3_fits_3 rfl rfl ?_
  exact loop k 0 true (by omega) rfl
theorem c_suspects {h k : Nat} {hd fe th : Nat → Nat} {ta : hF} (ok : okP σ h hd fe) (hk : k ≤ 20) (h36 : ∀ i, i < k → σ 36 i = nI (th i) ∧ th i < 7) (h37 : ∀ i, i < k → σ 37 i = ta i) : hCal G (m_X3_suspects (hEq (some (.int (nI (fSus (fun i => fEat hd fe h 0 i) th ta k h)))) (rr 38 51 x y) σ τ)) [.ref (hgA G 35), .ref (hgA G 38), .int (nI k)] shp (rr 38 51 x y) σ τ := by
  have k2 := ok.2.1
  refine hv_enter pn_X3 rfl ?_
  have loop : ∀ n i (qs : Nat), i + n = h → qs = fSus (fun i => fEat hd fe h 0 i) th ta k i → hV G (m_X3_suspects (hEq (some (.int (nI (fSus (fun i => fEat hd fe h 0 i) th ta k h)))) (rr 38 51 x y) σ τ)) 0 0 shp 5 [some (.ref (hgA G 35)), some (.ref (hgA G 38)), some (.int (nI k)), some (.int (nI qs)), some (.int (nI i))] [] (rr 38 51 x y) σ τ := by
    intro n
    induction n with
    | zero =>
      intro i qs hi hqs
      obtain rfl : i = h := by omega
      refine hv_iload dX3_suspects_5 rfl ?_
      refine hv_aload_n dX3_suspects_7 rfl ?_
      refine hv_geti dX3_suspects_8 fl_X3_19 (by first | rfl | assumption) rfl ?_
      refine hv_icmp_ge (tgt := 47) dX3_suspects_11 (by decide) (fun c_11 => ?_) (fun c_11 => absurd ((by rw [ok.1]; exact nI_le (Nat.le_refl _) (by omega))) c_11)
      refine hv_iload_n dX3_suspects_47 rfl ?_
      refine hv_iret dX3_suspects_48 rfl ?_
      rw [← hqs]; exact ⟨rfl, rfl, rfl, rfl⟩
    | succ n ih =>
      intro i qs hi hqs
      have hlt : qs < 128 := by rw [hqs]; exact fSus_lt _ _ _ _ _ (by omega)
      have hp7 := pow_lt7 (i := i) (by omega)
      refine hv_iload dX3_suspects_5 rfl ?_
      refine hv_aload_n dX3_suspects_7 rfl ?_
      refine hv_geti dX3_suspects_8 fl_X3_19 (by first | rfl | assumption) rfl ?_
      refine hv_icmp_ge (tgt := 47) dX3_suspects_11 (by decide) (fun c_11 => absurd c_11 ((by rw [ok.1]; exact nI_ge (by omega) (by omega)))) (fun c_11 => ?_)
      refine hv_iload_n dX3_suspects_14 rfl ?_
      refine hv_aload_n dX3_suspects_15 rfl ?_
      refine hv_aload_n dX3_suspects_16 rfl ?_
      refine hv_aload_n dX3_suspects_17 rfl ?_
      refine hv_iload dX3_suspects_18 rfl ?_
      refine hv_iconst (v := 0) dX3_suspects_20 (by decide) ?_
      refine hv_cv3 (c_eaters (cm := 0) ok (by omega) (by decide)) dX3_suspects_21 ml_X3_37 mk_X3_eaters (by first | rfl | assumption) rfl rfl rfl rfl rfl ?_
      rintro _ _ _ _ ⟨rfl, rfl, rfl, rfl⟩
      refine hv_iload_n dX3_suspects_24 rfl ?_
      refine hv_cv2 (c_fits (fEat_lt (by omega) k2) hk h36 h37) dX3_suspects_25 ml_X3_52 mk_X3_fits (by first | rfl | assumption) rfl rfl rfl rfl rfl ?_
      rintro _ _ _ _ ⟨rfl, rfl, rfl, rfl⟩
      refine hv_if_eq (tgt := 38) dX3_suspects_28 (by decide) (fun c_28 => ?_) (fun c_28 => ?_)
      · have hbt : ¬ fFit (fEat hd fe h 0 i) th ta k = true := fun hqq => by rw [hqq] at c_28; exact absurd c_28 (by decide)
        have hor : nI qs ||| (0 : Int32) = nI (qs ||| 0) := b_or (b := 0) (by omega) (by decide)
        have hnx : qs ||| 0 = fSus (fun i => fEat hd fe h 0 i) th ta k (i + 1) := by rw [fSus, ← hqs, if_neg hbt]
        refine hv_iconst (v := 0) dX3_suspects_38 (by decide) ?_
        refine hv_ior dX3_suspects_39 ?_
        rw [hor, hnx]
        refine hv_istore_n dX3_suspects_40 rfl rfl ?_
        refine hv_iinc dX3_suspects_41 rfl (nI_1 i) rfl rfl ?_
        refine hv_goto (tgt := 5) dX3_suspects_44 (by decide) ?_
        exact ih (i + 1) _ (by omega) rfl
      · have hbt : fFit (fEat hd fe h 0 i) th ta k = true := by
          cases hqq : fFit (fEat hd fe h 0 i) th ta k with
          | true => rfl
          | false => rw [hqq] at c_28; exact absurd rfl c_28
        have hor : nI qs ||| (1 : Int32) <<< (nI i &&& 31) = nI (qs ||| 2 ^ i) := by rw [b_shl (by omega), b_or (by omega) (by omega)]
        have hnx : qs ||| 2 ^ i = fSus (fun i => fEat hd fe h 0 i) th ta k (i + 1) := by rw [fSus, ← hqs, if_pos hbt]
        refine hv_iconst (v := 1) dX3_suspects_31 (by decide) ?_
        refine hv_iload dX3_suspects_32 rfl ?_
        refine hv_ishl dX3_suspects_34 ?_
        refine hv_goto (tgt := 39) dX3_suspects_35 (by decide) ?_
        refine hv_ior dX3_suspects_39 ?_
        rw [hor, hnx]
        refine hv_istore_n dX3_suspects_40 rfl rfl ?_
        refine hv_iinc dX3_suspects_41 rfl (nI_1 i) rfl rfl ?_
        refine hv_goto (tgt := 5) dX3_suspects_44 (by decide) ?_
        exact ih (i + 1) _ (by omega) rfl
  refine hv_iconst (v := 0) dX3_suspects_0 (by decide) ?_
  refine hv_istore_n dX3_suspects_1 rfl rfl ?_
  refine hv_iconst (v := 0) dX3_suspects_2 (by decide) ?_
  refine hv_istore dX3_suspects_3 rfl rfl ?_
  exact loop h 0 0 (by omega) rfl
end S18

