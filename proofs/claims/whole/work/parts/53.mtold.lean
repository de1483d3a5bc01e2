abbrev m_X12_tell (Q : hPo) : hMe := (hrm 2, 0, 0, yX12_tell, cX12_tell, 3, (some FieldType.int), shp, none, Q)
abbrev m_X12_forget (Q : hPo) : hMe := (hrm 0, 0, 0, yX12_forget, cX12_forget, 2, (some FieldType.int), shp, none, Q)
abbrev m_X12_beganBits (Q : hPo) : hMe := (hrm 2, 0, 0, yX12_beganBits, cX12_beganBits, 7, (some FieldType.int), shp, none, Q)
abbrev m_X12_began (Q : hPo) : hMe := (hrm 3, 0, 0, yX12_began, cX12_began, 4, (some FieldType.int), shp, none, Q)
abbrev m_X12_ask (Q : hPo) : hMe := (hrm 3, 0, 0, yX12_ask, cX12_ask, 8, (some FieldType.int), shp, none, Q)
def fToldM (σ : hS) (k : Nat) (th : Nat → Nat) (ta : hF) : Prop := ∀ i, i < k → σ 105 i = nI (th i) ∧ th i < 7 ∧ σ 106 i = ta i
theorem in01 {w : Int32} : inI 0 1 w = true ↔ (w = 0 ∨ w = 1) := by
  constructor
  · intro q
    obtain ⟨wi, hwi, rfl⟩ := inI_ix (n := 1) (by decide) q
    rcases (show wi = 0 ∨ wi = 1 by omega) with rfl | rfl
    · exact Or.inl rfl
    · exact Or.inr rfl
  · rintro (rfl | rfl) <;> decide
theorem in01f {w : Int32} (q : inI 0 1 w = false) : ¬ (w = 0 ∨ w = 1) := fun r => by rw [in01.mpr r] at q; exact absurd q (by decide)
theorem fQui_tb {f : Nat → Nat} {a : Nat} : ∀ n i, (fQui f a n).testBit i = (decide (i < n) && !(f i).testBit a)
  | 0, i => by simp [fQui]
  | n + 1, i => by
    unfold fQui
    by_cases c : (f n).testBit a = true
    · rw [if_pos c, Nat.or_zero, fQui_tb n i]
      by_cases e : i = n
      · subst e; rw [c]; simp
      · rw [show decide (i < n + 1) = decide (i < n) from by apply decide_eq_decide.mpr; omega]
    · rw [if_neg c, or_tb, fQui_tb n i]
      by_cases e : i = n
      · subst e
        rw [Bool.not_eq_true] at c
        rw [c]; simp
      · rw [show decide (i < n + 1) = decide (i < n) from by apply decide_eq_decide.mpr; omega, decide_eq_false (show ¬ n = i by omega), Bool.or_false]
theorem fSus_tb {f : Nat → Nat} {th : Nat → Nat} {ta : hF} {k : Nat} : ∀ n i, n ≤ i → (fSus f th ta k n).testBit i = false
  | 0, i, _ => by simp [fSus]
  | n + 1, i, hi => by
    unfold fSus
    split
    · rw [or_tb, fSus_tb n i (by omega), decide_eq_false (by omega)]; rfl
    · rw [Nat.or_zero, fSus_tb n i (by omega)]
/-- how many of a set eat where a eats -/
def fCnt (m : Nat) (f : Nat → Nat) (a : Nat) : Nat → Nat
  | 0 => 0
  | n + 1 => if m.testBit n = true then fCnt m f a n + (if (f n).testBit a = true then 1 else 0) else fCnt m f a n
theorem fCnt_eq {m h : Nat} {f : Nat → Nat} {a : Nat} (hm : ∀ i, h ≤ i → i < 7 → m.testBit i = false) : ∀ n, n ≤ 7 → fCnt m f a n + popN (m &&& fQui f a h) n = popN m n
  | 0, _ => rfl
  | n + 1, hn => by
    have ih := fCnt_eq (f := f) (a := a) hm n (by omega)
    rw [popN_s, popN_s, Nat.testBit_and, fQui_tb]
    unfold fCnt
    by_cases c : m.testBit n = true
    · have hh : n < h := by
        refine Classical.byContradiction (fun q => ?_)
        rw [hm n (by omega) (by omega)] at c; exact absurd c (by decide)
      rw [if_pos c, c, decide_eq_true hh]
      cases (f n).testBit a <;> simp <;> omega
    · rw [if_neg c, if_neg c]
      rw [Bool.not_eq_true] at c
      rw [c]; simp; omega
theorem fCnt_h {m h : Nat} {f : Nat → Nat} {a : Nat} (hm : ∀ i, h ≤ i → i < 7 → m.testBit i = false) : ∀ n, h ≤ n → n ≤ 7 → fCnt m f a n = fCnt m f a h
  | 0, h1, _ => by rw [show h = 0 by omega]
  | n + 1, h1, h2 => by
    by_cases e : h = n + 1
    · rw [e]
    · rw [fCnt, if_neg (by rw [hm n (by omega) (by omega)]; decide)]
      exact fCnt_h hm n (by omega) (by omega)
theorem fCnt_sum {m h : Nat} {f : Nat → Nat} {a : Nat} (hh : h ≤ 7) (hm : ∀ i, h ≤ i → i < 7 → m.testBit i = false) : fCnt m f a h + pop7 (m &&& fQui f a h) = pop7 m := by
  rw [← popN_7, ← popN_7, ← fCnt_h hm 7 hh (Nat.le_refl _)]
  exact fCnt_eq hm 7 (Nat.le_refl _)
theorem fCnt_le {m : Nat} {f : Nat → Nat} {a : Nat} : ∀ n, fCnt m f a n ≤ n
  | 0 => Nat.le_refl _
  | n + 1 => by
    have := fCnt_le (m := m) (f := f) (a := a) n
    unfold fCnt
    split
    · split <;> omega
    · omega
theorem fAsk_ge {m : Nat} {q : Nat → Nat} : ∀ n, 1 ≤ n → ∃ j, j < n ∧ (fAsk m q n).1 = nI j
  | 0, hq => absurd hq (by omega)
  | n + 1, _ => by
    unfold fAsk
    split
    · exact ⟨n, by omega, rfl⟩
    · rename_i c
      by_cases e : n = 0
      · subst e; exact absurd (Or.inl rfl) c
      · obtain ⟨j, hj, hj2⟩ := fAsk_ge (m := m) (q := q) n (by omega)
        exact ⟨j, by omega, hj2⟩
theorem nI_subN {a b : Nat} (h : b ≤ a) : nI a - nI b = nI (a - b) := by
  have e : nI a = nI (a - b) + nI b := by rw [nI_add, Nat.sub_add_cancel h]
  rw [e, Int32.add_sub_cancel]
/-- the reference's (best, least) -/
def akM (m : Nat) (q : Nat → Nat) (i : Nat) (be le : Int32) : Prop := (i = 0 ∧ be = -2 ∧ le = 0) ∨ (1 ≤ i ∧ (be, le) = fAsk m q i)
section S53
variable {G : hGl} {σ : hS} {τ : hT} {x y : Option Nat}
theorem d_forget : hCal G (m_X12_forget (fun v' r' σ' τ' => some (.int (σ 64 61)) = v' ∧ rr 38 51 x y = r' ∧ τ = τ' ∧ σ' = va_up σ 64 (upd (σ 64) 61 0))) [.ref (hgA G 64)] shp (rr 38 51 x y) σ τ := by
  refine hv_enter pn_X12 rfl ?_
  refine hv_aload_n dX12_forget_0 rfl ?_
  refine hv_geti dX12_forget_1 fl_X12_254 (by first | rfl | assumption) rfl ?_
  refine hv_istore_n dX12_forget_4 rfl rfl ?_
  refine hv_aload_n dX12_forget_5 rfl ?_
  refine hv_iconst (v := 0) dX12_forget_6 (by decide) ?_
  refine hv_puti dX12_forget_7 fl_X12_254 (by first | rfl | assumption) rfl rfl rfl ?_
  refine hv_iload_n dX12_forget_10 rfl ?_
  refine hv_iret dX12_forget_11 rfl ?_
  exact ⟨rfl, rfl, rfl, rfl⟩
theorem d_tell {L h td : Nat} {a v : Int32} (hL : σ 64 18 = nI L) (hL2 : L < 2) (h74 : σ 74 L = nI h) (k2 : h ≤ 7) (htd : σ 64 61 = nI td) (ht20 : td ≤ 20) (hv : v = 0 ∨ v = 1) : hCal G (m_X12_tell (fun v' r' σ' τ' => rr 38 51 x y = r' ∧ τ = τ' ∧ (∀ k, k ∉ [64, 105, 106] → σ' k = σ k) ∧ ((isH h a = true ∧ td < 20 ∧ v' = some (.int (nI td)) ∧ σ' 105 = upd (σ 105) td a ∧ σ' 106 = upd (σ 106) td v ∧ σ' 64 = upd (σ 64) 61 (nI (td + 1))) ∨ (¬ (isH h a = true ∧ td < 20) ∧ v' = some (.int (-1)) ∧ σ = σ')))) [.ref (hgA G 64), .int a, .int v] shp (rr 38 51 x y) σ τ := by
  refine hv_enter pn_X12 rfl ?_
  refine hv_aload_n dX12_tell_0 rfl ?_
  refine hv_geti dX12_tell_1 fl_X12_254 (by first | rfl | assumption) rfl ?_
  refine hv_bipush (v := 20) dX12_tell_4 (by decide) ?_
  rw [htd]
  refine hv_icmp_eq (tgt := 17) dX12_tell_6 (by decide) (fun c_6 => ?_) (fun c_6 => ?_)
  · have ht : ¬ td < 20 := by
      have := (nI_eq (b := 20) (by omega) (by decide)).mp c_6
      omega
    refine hv_iconst (v := -1) dX12_tell_17 (by decide) ?_
    refine hv_iret dX12_tell_18 rfl ?_
    first
      | exact ⟨rfl, rfl, fun _ _ => rfl, Or.inr ⟨fun qq => ht qq.2, rfl, rfl⟩⟩
      | exact ⟨rfl, rfl, fun _ _ => rfl, Or.inr ⟨fun qq => by rw [bI_0 c_14] at qq; exact absurd qq.1 (by decide), rfl, rfl⟩⟩
  · have ht : td < 20 := by
      refine Classical.byContradiction (fun qq => c_6 ?_)
      rw [show td = 20 by omega]; rfl
    refine hv_aload_n dX12_tell_9 rfl ?_
    refine hv_iload_n dX12_tell_10 rfl ?_
    refine hv_cv1 (d_isHouse hL hL2 h74 k2) dX12_tell_11 ml_X12_370 mk_X12_isHouse (by first | rfl | assumption) rfl rfl rfl rfl rfl ?_
    rintro _ _ _ _ ⟨rfl, rfl, rfl, rfl⟩
    refine hv_if_ne (tgt := 19) dX12_tell_14 (by decide) (fun c_14 => ?_) (fun c_14 => ?_)
    · refine hv_aload_n dX12_tell_19 rfl ?_
      refine hv_getr dX12_tell_20 fl_X12_140 (by first | rfl | assumption) rfl (by first | rfl | assumption) ?_
      refine hv_aload_n dX12_tell_23 rfl ?_
      refine hv_geti dX12_tell_24 fl_X12_254 (by first | rfl | assumption) rfl ?_
      refine hv_iload_n dX12_tell_27 rfl ?_
      refine hv_iast dX12_tell_28 (by first | rfl | assumption) (j := td) htd (by omega) (by first | decide | assumption) ?_
      refine hv_aload_n dX12_tell_29 rfl ?_
      refine hv_getr dX12_tell_30 fl_X12_143 (by first | rfl | assumption) rfl (by first | rfl | assumption) ?_
      refine hv_aload_n dX12_tell_33 rfl ?_
      refine hv_geti dX12_tell_34 fl_X12_254 (by first | rfl | assumption) rfl ?_
      refine hv_iload_n dX12_tell_37 rfl ?_
      refine hv_if_eq (tgt := 45) dX12_tell_38 (by decide) (fun c_38 => ?_) (fun c_38 => ?_)
      · have hve : (0 : Int32) = v := c_38.symm
        refine hv_iconst (v := 0) dX12_tell_45 (by decide) ?_
        rw [hve]
        refine hv_iast dX12_tell_46 (by first | rfl | assumption) (j := td) (by rw [hva_ne (by decide)]; exact htd) (by omega) (by first | decide | assumption) ?_
        refine hv_aload_n dX12_tell_47 rfl ?_
        refine hv_dup dX12_tell_48 rfl ?_
        refine hv_geti dX12_tell_49 fl_X12_254 (by first | rfl | assumption) rfl ?_
        refine hv_iconst (v := 1) dX12_tell_52 (by decide) ?_
        refine hv_iadd dX12_tell_53 ?_
        refine hv_puti dX12_tell_54 fl_X12_254 (by first | rfl | assumption) rfl rfl rfl ?_
        refine hv_aload_n dX12_tell_57 rfl ?_
        refine hv_geti dX12_tell_58 fl_X12_254 (by first | rfl | assumption) rfl ?_
        refine hv_iconst (v := 1) dX12_tell_61 (by decide) ?_
        refine hv_isub dX12_tell_62 ?_
        refine hv_iret dX12_tell_63 rfl ?_
        refine ⟨rfl, rfl, off_up (off_up (off_up (fun _ _ => rfl) (by decide)) (by decide)) (by decide), Or.inl ⟨bI_1 c_14, ht, ?_, ?_, ?_, ?_⟩⟩
        · simp only [hup_eq, pk_us, hva_ne (show (64 : Nat) ≠ 105 by decide), hva_ne (show (64 : Nat) ≠ 106 by decide), htd]
          rw [Int32.add_sub_cancel]
        · simp only [hup_eq, hva_ne (show (105 : Nat) ≠ 64 by decide), hva_ne (show (105 : Nat) ≠ 106 by decide)]
        · simp only [hup_eq, hva_ne (show (106 : Nat) ≠ 64 by decide), hva_ne (show (106 : Nat) ≠ 105 by decide)]
        · simp only [hup_eq, hva_ne (show (64 : Nat) ≠ 105 by decide), hva_ne (show (64 : Nat) ≠ 106 by decide), htd]
          rw [nI_1]
      · have hve : (1 : Int32) = v := (hv.resolve_left c_38).symm
        refine hv_iconst (v := 1) dX12_tell_41 (by decide) ?_
        refine hv_goto (tgt := 46) dX12_tell_42 (by decide) ?_
        rw [hve]
        refine hv_iast dX12_tell_46 (by first | rfl | assumption) (j := td) (by rw [hva_ne (by decide)]; exact htd) (by omega) (by first | decide | assumption) ?_
        refine hv_aload_n dX12_tell_47 rfl ?_
        refine hv_dup dX12_tell_48 rfl ?_
        refine hv_geti dX12_tell_49 fl_X12_254 (by first | rfl | assumption) rfl ?_
        refine hv_iconst (v := 1) dX12_tell_52 (by decide) ?_
        refine hv_iadd dX12_tell_53 ?_
        refine hv_puti dX12_tell_54 fl_X12_254 (by first | rfl | assumption) rfl rfl rfl ?_
        refine hv_aload_n dX12_tell_57 rfl ?_
        refine hv_geti dX12_tell_58 fl_X12_254 (by first | rfl | assumption) rfl ?_
        refine hv_iconst (v := 1) dX12_tell_61 (by decide) ?_
        refine hv_isub dX12_tell_62 ?_
        refine hv_iret dX12_tell_63 rfl ?_
        refine ⟨rfl, rfl, off_up (off_up (off_up (fun _ _ => rfl) (by decide)) (by decide)) (by decide), Or.inl ⟨bI_1 c_14, ht, ?_, ?_, ?_, ?_⟩⟩
        · simp only [hup_eq, pk_us, hva_ne (show (64 : Nat) ≠ 105 by decide), hva_ne (show (64 : Nat) ≠ 106 by decide), htd]
          rw [Int32.add_sub_cancel]
        · simp only [hup_eq, hva_ne (show (105 : Nat) ≠ 64 by decide), hva_ne (show (105 : Nat) ≠ 106 by decide)]
        · simp only [hup_eq, hva_ne (show (106 : Nat) ≠ 64 by decide), hva_ne (show (106 : Nat) ≠ 105 by decide)]
        · simp only [hup_eq, hva_ne (show (64 : Nat) ≠ 105 by decide), hva_ne (show (64 : Nat) ≠ 106 by decide), htd]
          rw [nI_1]
    · refine hv_iconst (v := -1) dX12_tell_17 (by decide) ?_
      refine hv_iret dX12_tell_18 rfl ?_
      first
        | exact ⟨rfl, rfl, fun _ _ => rfl, Or.inr ⟨fun qq => ht qq.2, rfl, rfl⟩⟩
        | exact ⟨rfl, rfl, fun _ _ => rfl, Or.inr ⟨fun qq => by rw [bI_0 c_14] at qq; exact absurd qq.1 (by decide), rfl, rfl⟩⟩
theorem d_beganBits {L h k : Nat} {hd fe th : Nat → Nat} {ta : hF} (ok : okPM σ L h hd fe) (hk : k ≤ 20) (hto : fToldM σ k th ta) : hCal G (m_X12_beganBits (hEq (some (.int (nI (fSus (fun i => fEat hd fe h 0 i) th ta k h)))) (rr 38 51 x y) σ τ)) [.ref (hgA G 64), .int (nI k)] shp (rr 38 51 x y) σ τ := by
  have k2 := ok.2.2.2.1
  have hL2 := ok.2.1
  refine hv_enter pn_X12 rfl ?_
  generalize hQ : hEq (some (.int (nI (fSus (fun i => fEat hd fe h 0 i) th ta k h)))) (rr 38 51 x y) σ τ = Q
  have inner : ∀ m S a E, E < 128 → a < 7 → ∀ i b, i + m = k → b = fFit E th ta i → (∀ b', b' = fFit E th ta k → hV G (m_X12_beganBits Q) 0 0 shp 68 [some (.ref (hgA G 64)), some (.int (nI k)), some (.int (nI S)), some (.int (nI a)), some (.int (nI E)), some (.int (bI b')), some (.int (nI k))] [] (rr 38 51 x y) σ τ) → hV G (m_X12_beganBits Q) 0 0 shp 31 [some (.ref (hgA G 64)), some (.int (nI k)), some (.int (nI S)), some (.int (nI a)), some (.int (nI E)), some (.int (bI b)), some (.int (nI i))] [] (rr 38 51 x y) σ τ := by
    intro m S a E hE ha
    induction m with
    | zero =>
      intro i b hi hb kk
      obtain rfl : i = k := by omega
      refine hv_iload dX12_beganBits_31 rfl ?_
      refine hv_iload_n dX12_beganBits_33 rfl ?_
      refine hv_icmp_ge (tgt := 68) dX12_beganBits_34 (by decide) (fun c_34 => ?_) (fun c_34 => absurd ((nI_le (Nat.le_refl _) (by omega))) c_34)
      exact kk b hb
    | succ m ih =>
      intro i b hi hb kk
      obtain ⟨t1', t2', t3'⟩ := hto i (by omega)
      have nx : fFit E th ta (i + 1) = (b && decide (bI (E.testBit (th i)) = ta i)) := by rw [fFit, ← hb]
      refine hv_iload dX12_beganBits_31 rfl ?_
      refine hv_iload_n dX12_beganBits_33 rfl ?_
      refine hv_icmp_ge (tgt := 68) dX12_beganBits_34 (by decide) (fun c_34 => absurd c_34 ((nI_ge (by omega) (by omega)))) (fun c_34 => ?_)
      refine hv_iload dX12_beganBits_37 rfl ?_
      refine hv_aload_n dX12_beganBits_39 rfl ?_
      refine hv_getr dX12_beganBits_40 fl_X12_140 (by first | rfl | assumption) rfl (by first | rfl | assumption) ?_
      refine hv_iload dX12_beganBits_43 rfl ?_
      refine hv_iald dX12_beganBits_45 (by first | rfl | assumption) rfl (by first | assumption | omega) (by first | decide | assumption) ?_
      rw [t1']
      refine hv_ishr dX12_beganBits_46 ?_
      refine hv_iconst (v := 1) dX12_beganBits_47 (by decide) ?_
      refine hv_iand dX12_beganBits_48 ?_
      refine hv_aload_n dX12_beganBits_49 rfl ?_
      refine hv_getr dX12_beganBits_50 fl_X12_143 (by first | rfl | assumption) rfl (by first | rfl | assumption) ?_
      refine hv_iload dX12_beganBits_53 rfl ?_
      refine hv_iald dX12_beganBits_55 (by first | rfl | assumption) rfl (by first | assumption | omega) (by first | decide | assumption) ?_
      rw [b_bit hE (by omega), t3']
      refine hv_icmp_eq (tgt := 62) dX12_beganBits_56 (by decide) (fun c_56 => ?_) (fun c_56 => ?_)
      · rw [decide_eq_true c_56, Bool.and_true] at nx
        refine hv_iinc dX12_beganBits_62 rfl (nI_1 i) rfl rfl ?_
        refine hv_goto (tgt := 31) dX12_beganBits_65 (by decide) ?_
        first
          | exact ih (i + 1) b (by omega) nx.symm kk
          | exact ih (i + 1) false (by omega) nx.symm kk
      · rw [decide_eq_false c_56, Bool.and_false] at nx
        refine hv_iconst (v := 0) dX12_beganBits_59 (by decide) ?_
        refine hv_istore dX12_beganBits_60 rfl rfl ?_
        refine hv_iinc dX12_beganBits_62 rfl (nI_1 i) rfl rfl ?_
        refine hv_goto (tgt := 31) dX12_beganBits_65 (by decide) ?_
        first
          | exact ih (i + 1) b (by omega) nx.symm kk
          | exact ih (i + 1) false (by omega) nx.symm kk
  have outer : ∀ m a S (l4 l5 l6 : Option Value), a + m = h → S < 128 → S = fSus (fun i => fEat hd fe h 0 i) th ta k a → hV G (m_X12_beganBits Q) 0 0 shp 4 [some (.ref (hgA G 64)), some (.int (nI k)), some (.int (nI S)), some (.int (nI a)), l4, l5, l6] [] (rr 38 51 x y) σ τ := by
    intro m
    induction m with
    | zero =>
      intro a S l4 l5 l6 hi hS he
      obtain rfl : a = h := by omega
      refine hv_iload_n dX12_beganBits_4 rfl ?_
      refine hv_aload_n dX12_beganBits_5 rfl ?_
      refine hv_getr dX12_beganBits_6 fl_X12_46 (by first | rfl | assumption) rfl (by first | rfl | assumption) ?_
      refine hv_aload_n dX12_beganBits_9 rfl ?_
      refine hv_geti dX12_beganBits_10 fl_X12_233 (by first | rfl | assumption) rfl ?_
      refine hv_iald dX12_beganBits_13 (by first | rfl | assumption) (j := L) ok.1 (by omega) (by first | decide | assumption) ?_
      refine hv_icmp_ge (tgt := 85) dX12_beganBits_14 (by decide) (fun c_14 => ?_) (fun c_14 => absurd ((by rw [ok.2.2.1]; exact nI_le (Nat.le_refl _) (by omega))) c_14)
      refine hv_iload_n dX12_beganBits_85 rfl ?_
      refine hv_iret dX12_beganBits_86 rfl ?_
      rw [← hQ, he]; exact ⟨rfl, rfl, rfl, rfl⟩
    | succ m ih =>
      intro a S l4 l5 l6 hi hS he
      have nx : fSus (fun i => fEat hd fe h 0 i) th ta k (a + 1) = S ||| (if fFit (fEat hd fe h 0 a) th ta k = true then 2 ^ a else 0) := by rw [fSus, ← he]
      refine hv_iload_n dX12_beganBits_4 rfl ?_
      refine hv_aload_n dX12_beganBits_5 rfl ?_
      refine hv_getr dX12_beganBits_6 fl_X12_46 (by first | rfl | assumption) rfl (by first | rfl | assumption) ?_
      refine hv_aload_n dX12_beganBits_9 rfl ?_
      refine hv_geti dX12_beganBits_10 fl_X12_233 (by first | rfl | assumption) rfl ?_
      refine hv_iald dX12_beganBits_13 (by first | rfl | assumption) (j := L) ok.1 (by omega) (by first | decide | assumption) ?_
      refine hv_icmp_ge (tgt := 85) dX12_beganBits_14 (by decide) (fun c_14 => absurd c_14 ((by rw [ok.2.2.1]; exact nI_ge (by omega) (by omega)))) (fun c_14 => ?_)
      refine hv_aload_n dX12_beganBits_17 rfl ?_
      refine hv_iload_n dX12_beganBits_18 rfl ?_
      refine hv_iconst (v := 0) dX12_beganBits_19 (by decide) ?_
      refine hv_cv2 (d_panicBy (cm := 0) ok (by omega) (by decide)) dX12_beganBits_20 ml_X12_397 mk_X12_panicBy (by first | rfl | assumption) rfl rfl rfl rfl rfl ?_
      rintro _ _ _ _ ⟨rfl, rfl, rfl, rfl⟩
      refine hv_istore dX12_beganBits_23 rfl rfl ?_
      refine hv_iconst (v := 1) dX12_beganBits_25 (by decide) ?_
      refine hv_istore dX12_beganBits_26 rfl rfl ?_
      refine hv_iconst (v := 0) dX12_beganBits_28 (by decide) ?_
      refine hv_istore dX12_beganBits_29 rfl rfl ?_
      refine inner k S a _ (fEat_lt (by omega) k2) (by omega) 0 true (by omega) rfl ?_
      intro b hb
      rw [← hb] at nx
      refine hv_iload dX12_beganBits_68 rfl ?_
      refine hv_if_eq (tgt := 79) dX12_beganBits_70 (by decide) (fun c_70 => ?_) (fun c_70 => ?_)
      · rw [if_neg (by rw [bI_0 c_70]; decide), Nat.or_zero] at nx
        refine hv_iinc dX12_beganBits_79 rfl (nI_1 a) rfl rfl ?_
        refine hv_goto (tgt := 4) dX12_beganBits_82 (by decide) ?_
        first
          | exact ih (a + 1) S2 _ _ _ (by omega) (by rw [← hS2]; exact or_lt128 hS (pow_lt7 (by omega))) nx.symm
          | exact ih (a + 1) S _ _ _ (by omega) hS nx.symm
      · rw [if_pos (bI_1 c_70)] at nx
        refine hv_iload_n dX12_beganBits_73 rfl ?_
        refine hv_iconst (v := 1) dX12_beganBits_74 (by decide) ?_
        refine hv_iload_n dX12_beganBits_75 rfl ?_
        refine hv_ishl dX12_beganBits_76 ?_
        refine hv_ior dX12_beganBits_77 ?_
        rw [b_shl (by omega), b_or (by omega) (by have := pow_lt7 (i := a) (by omega); omega)]
        obtain ⟨S2, hS2⟩ : ∃ S2, S ||| 2 ^ a = S2 := ⟨_, rfl⟩
        rw [hS2] at nx
        rw [hS2]
        refine hv_istore_n dX12_beganBits_78 rfl rfl ?_
        refine hv_iinc dX12_beganBits_79 rfl (nI_1 a) rfl rfl ?_
        refine hv_goto (tgt := 4) dX12_beganBits_82 (by decide) ?_
        first
          | exact ih (a + 1) S2 _ _ _ (by omega) (by rw [← hS2]; exact or_lt128 hS (pow_lt7 (by omega))) nx.symm
          | exact ih (a + 1) S _ _ _ (by omega) hS nx.symm
  refine hv_iconst (v := 0) dX12_beganBits_0 (by decide) ?_
  refine hv_istore_n dX12_beganBits_1 rfl rfl ?_
  refine hv_iconst (v := 0) dX12_beganBits_2 (by decide) ?_
  refine hv_istore_n dX12_beganBits_3 rfl rfl ?_
  exact outer h 0 0 none none none (by omega) (by decide) rfl
theorem d_began {L h td : Nat} {k w : Int32} {hd fe th : Nat → Nat} {ta : hF} (ok : okPM σ L h hd fe) (htd : σ 64 61 = nI td) (ht20 : td ≤ 20) (hto : fToldM σ td th ta) : hCal G (m_X12_began (hEq (some (.int (fBegan (fun i => fEat hd fe h 0 i) th ta h td k w))) (rr 38 51 x y) σ τ)) [.ref (hgA G 64), .int k, .int w] shp (rr 38 51 x y) σ τ := by
  have k2 := ok.2.2.2.1
  refine hv_enter pn_X12 rfl ?_
  unfold fBegan
  refine hv_iload_n dX12_began_0 rfl ?_
  refine hv_iconst (v := 0) dX12_began_1 (by decide) ?_
  refine hv_aload_n dX12_began_2 rfl ?_
  refine hv_geti dX12_began_3 fl_X12_254 (by first | rfl | assumption) rfl ?_
  rw [htd]
  refine hv_cs3 (d_in) dX12_began_6 ml_X12_319 mk_X12_in rfl rfl rfl ?_
  rintro _ _ _ _ ⟨rfl, rfl, rfl, rfl⟩
  refine hv_if_eq (tgt := 21) dX12_began_9 (by decide) (fun c_9 => ?_) (fun c_9 => ?_)
  · rw [if_neg (fun qq => by rw [bI_0 c_9] at qq; exact absurd qq.1 (by decide))]
    refine hv_iconst (v := -1) dX12_began_21 (by decide) ?_
    refine hv_iret dX12_began_22 rfl ?_
    exact ⟨rfl, rfl, rfl, rfl⟩
  · refine hv_iload_n dX12_began_12 rfl ?_
    refine hv_iconst (v := 0) dX12_began_13 (by decide) ?_
    refine hv_iconst (v := 1) dX12_began_14 (by decide) ?_
    refine hv_cs3 (d_in) dX12_began_15 ml_X12_319 mk_X12_in rfl rfl rfl ?_
    rintro _ _ _ _ ⟨rfl, rfl, rfl, rfl⟩
    refine hv_if_ne (tgt := 23) dX12_began_18 (by decide) (fun c_18 => ?_) (fun c_18 => ?_)
    · rw [if_pos ⟨bI_1 c_9, in01.mp (bI_1 c_18)⟩]
      obtain ⟨ki, hki, rfl⟩ := inI_ix (by omega) (bI_1 c_9)
      rw [nI_clamp (by omega)]
      refine hv_aload_n dX12_began_23 rfl ?_
      refine hv_iload_n dX12_began_24 rfl ?_
      refine hv_cv1 (d_beganBits ok (by omega) (fun i hi => hto i (by omega))) dX12_began_25 ml_X12_434 mk_X12_beganBits (by first | rfl | assumption) rfl rfl rfl rfl rfl ?_
      rintro _ _ _ _ ⟨rfl, rfl, rfl, rfl⟩
      refine hv_istore_n dX12_began_28 rfl rfl ?_
      refine hv_iload_n dX12_began_29 rfl ?_
      refine hv_if_ne (tgt := 40) dX12_began_30 (by decide) (fun c_30 => ?_) (fun c_30 => ?_)
      · rw [if_neg c_30]
        refine hv_iload_n dX12_began_40 rfl ?_
        refine hv_iret dX12_began_41 rfl ?_
        exact ⟨rfl, rfl, rfl, rfl⟩
      · rw [if_pos c_30]
        refine hv_iload_n dX12_began_33 rfl ?_
        refine hv_cs1 (d_bits (fSus_lt _ _ _ _ _ k2)) dX12_began_34 ml_X12_394 mk_X12_bits rfl rfl rfl ?_
        rintro _ _ _ _ ⟨rfl, rfl, rfl, rfl⟩
        refine hv_goto (tgt := 41) dX12_began_37 (by decide) ?_
        refine hv_iret dX12_began_41 rfl ?_
        exact ⟨rfl, rfl, rfl, rfl⟩
    · rw [if_neg (fun qq => in01f (bI_0 c_18) qq.2)]
      refine hv_iconst (v := -1) dX12_began_21 (by decide) ?_
      refine hv_iret dX12_began_22 rfl ?_
      exact ⟨rfl, rfl, rfl, rfl⟩
end S53

