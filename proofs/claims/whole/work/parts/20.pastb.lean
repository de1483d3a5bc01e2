def fHld (f : hF) : Nat → Int32
  | 0 => 0
  | n + 1 => fHld f n + (if f n = 0 then 0 else 1)
def fMem (m : Nat) (i : Int32) : Nat → Nat → Nat → Int32
  | 0, _, _ => -1
  | k + 1, hs, sn => if m.testBit hs = true then (if nI sn = i then nI hs else fMem m i k (hs + 1) (sn + 1)) else fMem m i k (hs + 1) sn
def fLeft (m : Nat) (q : Nat → Nat) (n : Nat) : Int32 := hmax (nI (pop7 (m &&& q n))) (nI (pop7 m) - nI (pop7 (m &&& q n)))
def fAsk (m : Nat) (q : Nat → Nat) : Nat → Int32 × Int32
  | 0 => (-1, 0)
  | n + 1 => if (fAsk m q n).1 = -1 ∨ fLeft m q n < (fAsk m q n).2 then (nI n, fLeft m q n) else fAsk m q n
section S20
variable {G : hGl} {σ : hS} {τ : hT} {x y : Option Nat}
theorem c_store0 {sl : Int32} (hs : sl < 0 ∨ 3 ≤ sl) : hCal G (m_X5_store (hEq (some (.int 0)) (rr 38 51 x y) σ τ)) [.ref (hgA G 17), .int sl, .ref (hgA G 11)] shp (rr 38 51 x y) σ τ := by
  refine hv_enter pn_X5 rfl ?_
  by_cases h0 : sl < 0
  · refine hv_iload_n dX5_store_0 rfl ?_
    refine hv_if_lt (tgt := 9) dX5_store_1 (by decide) (fun c_1 => ?_) (fun c_1 => absurd (h0) c_1)
    refine hv_iconst (v := 0) dX5_store_9 (by decide) ?_
    refine hv_zret dX5_store_10 rfl (by first | exact Or.inl rfl | exact Or.inr rfl | assumption) ?_
    exact ⟨rfl, rfl, rfl, rfl⟩
  · have h3 : ¬ sl < 3 := Int32.not_lt.mpr (hs.resolve_left h0)
    refine hv_iload_n dX5_store_0 rfl ?_
    refine hv_if_lt (tgt := 9) dX5_store_1 (by decide) (fun c_1 => absurd c_1 (h0)) (fun c_1 => ?_)
    refine hv_iload_n dX5_store_4 rfl ?_
    refine hv_iconst (v := 3) dX5_store_5 (by decide) ?_
    refine hv_icmp_lt (tgt := 11) dX5_store_6 (by decide) (fun c_6 => absurd c_6 (h3)) (fun c_6 => ?_)
    refine hv_iconst (v := 0) dX5_store_9 (by decide) ?_
    refine hv_zret dX5_store_10 rfl (by first | exact Or.inl rfl | exact Or.inr rfl | assumption) ?_
    exact ⟨rfl, rfl, rfl, rfl⟩
theorem c_store {s : Nat} (hs : s < 3) : hCal G (m_X5_store (hQp [19, 20] (some (.int 1)) (rr 38 51 x y) σ τ (fun σ' => pRow (σ' 19) (s * 38) σ ∧ (∀ j, j < s * 38 ∨ s * 38 + 38 ≤ j → σ' 19 j = σ 19 j) ∧ σ' 20 = upd (σ 20) s 1))) [.ref (hgA G 17), .int (nI s), .ref (hgA G 11)] shp (rr 38 51 x y) σ τ := by
  refine hv_enter pn_X5 rfl ?_
  refine hv_iload_n dX5_store_0 rfl ?_
  refine hv_if_lt (tgt := 9) dX5_store_1 (by decide) (fun c_1 => absurd c_1 ((nI_pos (by omega)))) (fun c_1 => ?_)
  refine hv_iload_n dX5_store_4 rfl ?_
  refine hv_iconst (v := 3) dX5_store_5 (by decide) ?_
  refine hv_icmp_lt (tgt := 11) dX5_store_6 (by decide) (fun c_6 => ?_) (fun c_6 => absurd ((nI_lt (b := 3) hs (by decide))) c_6)
  refine hv_aload_n dX5_store_11 rfl ?_
  refine hv_aload_n dX5_store_12 rfl ?_
  refine hv_getr dX5_store_13 fl_X5_15 (by first | rfl | assumption) rfl (by first | rfl | assumption) ?_
  refine hv_iload_n dX5_store_16 rfl ?_
  refine hv_bipush (v := 38) dX5_store_17 (by decide) ?_
  refine hv_imul dX5_store_19 ?_
  rw [show nI s * 38 = nI (s * 38) from pk_mul s 38]
  refine hv_cv2 (c_write_19 (p := s * 38) (by omega)) dX5_store_20 ml_X5_30 mk_X6_write (by first | rfl | assumption) rfl rfl rfl rfl rfl ?_
  rintro _ _ σ1 _ ⟨rfl, rfl, rfl, hq1, hq2, hq3⟩
  refine hv_aload_n dX5_store_23 rfl ?_
  refine hv_getr dX5_store_24 fl_X5_18 (by first | rfl | assumption) rfl (by first | rfl | assumption) ?_
  refine hv_iload_n dX5_store_27 rfl ?_
  refine hv_iconst (v := 1) dX5_store_28 (by decide) ?_
  refine hv_zast dX5_store_29 (by first | rfl | assumption) (j := s) rfl (by omega) (by first | decide | assumption) ?_
  refine hv_iconst (v := 1) dX5_store_30 (by decide) ?_
  refine hv_zret dX5_store_31 rfl (by first | exact Or.inl rfl | exact Or.inr rfl | assumption) ?_
  refine ⟨rfl, rfl, rfl, off_up (fun k hk => hq1 k (fun qq => hk (by simp at qq ⊢; omega))) (by decide), ?_, ?_, ?_⟩
  · rw [hva_ne (by decide)]; exact hq2
  · rw [hva_ne (by decide)]; exact hq3
  · rw [hup_eq, hq1 20 (by decide)]; rfl
theorem c_fetch0 {sl : Int32} (hs : sl < 0 ∨ 3 ≤ sl) : hCal G (m_X5_fetch (hEq (some (.int 0)) (rr 38 51 x y) σ τ)) [.ref (hgA G 17), .int sl, .ref (hgA G 11)] shp (rr 38 51 x y) σ τ := by
  refine hv_enter pn_X5 rfl ?_
  by_cases h0 : sl < 0
  · refine hv_iload_n dX5_fetch_0 rfl ?_
    refine hv_if_lt (tgt := 18) dX5_fetch_1 (by decide) (fun c_1 => ?_) (fun c_1 => absurd (h0) c_1)
    refine hv_iconst (v := 0) dX5_fetch_18 (by decide) ?_
    refine hv_zret dX5_fetch_19 rfl (by first | exact Or.inl rfl | exact Or.inr rfl | assumption) ?_
    exact ⟨rfl, rfl, rfl, rfl⟩
  · have h3 : 3 ≤ sl := hs.resolve_left h0
    refine hv_iload_n dX5_fetch_0 rfl ?_
    refine hv_if_lt (tgt := 18) dX5_fetch_1 (by decide) (fun c_1 => absurd c_1 (h0)) (fun c_1 => ?_)
    refine hv_iload_n dX5_fetch_4 rfl ?_
    refine hv_iconst (v := 3) dX5_fetch_5 (by decide) ?_
    refine hv_icmp_ge (tgt := 18) dX5_fetch_6 (by decide) (fun c_6 => ?_) (fun c_6 => absurd (h3) c_6)
    refine hv_iconst (v := 0) dX5_fetch_18 (by decide) ?_
    refine hv_zret dX5_fetch_19 rfl (by first | exact Or.inl rfl | exact Or.inr rfl | assumption) ?_
    exact ⟨rfl, rfl, rfl, rfl⟩
theorem c_fetch1 {s : Nat} (hs : s < 3) (hh : σ 20 s = 0) : hCal G (m_X5_fetch (hEq (some (.int 0)) (rr 38 51 x y) σ τ)) [.ref (hgA G 17), .int (nI s), .ref (hgA G 11)] shp (rr 38 51 x y) σ τ := by
  refine hv_enter pn_X5 rfl ?_
  refine hv_iload_n dX5_fetch_0 rfl ?_
  refine hv_if_lt (tgt := 18) dX5_fetch_1 (by decide) (fun c_1 => absurd c_1 ((nI_pos (by omega)))) (fun c_1 => ?_)
  refine hv_iload_n dX5_fetch_4 rfl ?_
  refine hv_iconst (v := 3) dX5_fetch_5 (by decide) ?_
  refine hv_icmp_ge (tgt := 18) dX5_fetch_6 (by decide) (fun c_6 => absurd c_6 ((nI_ge (b := 3) hs (by decide)))) (fun c_6 => ?_)
  refine hv_aload_n dX5_fetch_9 rfl ?_
  refine hv_getr dX5_fetch_10 fl_X5_18 (by first | rfl | assumption) rfl (by first | rfl | assumption) ?_
  refine hv_iload_n dX5_fetch_13 rfl ?_
  refine hv_zald dX5_fetch_14 (by first | rfl | assumption) rfl (by first | assumption | omega) (by first | decide | assumption) ?_
  refine hv_if_ne (tgt := 20) dX5_fetch_15 (by decide) (fun c_15 => absurd (hh) c_15) (fun c_15 => ?_)
  refine hv_iconst (v := 0) dX5_fetch_18 (by decide) ?_
  refine hv_zret dX5_fetch_19 rfl (by first | exact Or.inl rfl | exact Or.inr rfl | assumption) ?_
  exact ⟨rfl, rfl, rfl, rfl⟩
theorem c_fetch {s : Nat} (hs : s < 3) (hh : ¬ σ 20 s = 0) : hCal G (m_X5_fetch (hQp [11, 12, 13, 14, 15, 16, 17] (some (.int 1)) (rr 38 51 x y) σ τ (fun σ' => pRow (σ 19) (s * 38) σ' ∧ σ' 17 3 = σ 17 3 ∧ σ' 17 4 = 0))) [.ref (hgA G 17), .int (nI s), .ref (hgA G 11)] shp (rr 38 51 x y) σ τ := by
  refine hv_enter pn_X5 rfl ?_
  refine hv_iload_n dX5_fetch_0 rfl ?_
  refine hv_if_lt (tgt := 18) dX5_fetch_1 (by decide) (fun c_1 => absurd c_1 ((nI_pos (by omega)))) (fun c_1 => ?_)
  refine hv_iload_n dX5_fetch_4 rfl ?_
  refine hv_iconst (v := 3) dX5_fetch_5 (by decide) ?_
  refine hv_icmp_ge (tgt := 18) dX5_fetch_6 (by decide) (fun c_6 => absurd c_6 ((nI_ge (b := 3) hs (by decide)))) (fun c_6 => ?_)
  refine hv_aload_n dX5_fetch_9 rfl ?_
  refine hv_getr dX5_fetch_10 fl_X5_18 (by first | rfl | assumption) rfl (by first | rfl | assumption) ?_
  refine hv_iload_n dX5_fetch_13 rfl ?_
  refine hv_zald dX5_fetch_14 (by first | rfl | assumption) rfl (by first | assumption | omega) (by first | decide | assumption) ?_
  refine hv_if_ne (tgt := 20) dX5_fetch_15 (by decide) (fun c_15 => ?_) (fun c_15 => absurd c_15 (hh))
  refine hv_aload_n dX5_fetch_20 rfl ?_
  refine hv_aload_n dX5_fetch_21 rfl ?_
  refine hv_getr dX5_fetch_22 fl_X5_15 (by first | rfl | assumption) rfl (by first | rfl | assumption) ?_
  refine hv_iload_n dX5_fetch_25 rfl ?_
  refine hv_bipush (v := 38) dX5_fetch_26 (by decide) ?_
  refine hv_imul dX5_fetch_28 ?_
  rw [show nI s * 38 = nI (s * 38) from pk_mul s 38]
  refine hv_cv2 (c_take_19 (p := s * 38) (by omega)) dX5_fetch_29 ml_X5_37 mk_X6_take (by first | rfl | assumption) rfl rfl rfl rfl rfl ?_
  rintro _ _ σ1 _ ⟨rfl, rfl, rfl, hq1, hq2⟩
  refine hv_aload_n dX5_fetch_32 rfl ?_
  refine hv_iconst (v := 0) dX5_fetch_33 (by decide) ?_
  refine hv_puti dX5_fetch_34 fl_X5_22 (by first | rfl | assumption) rfl rfl rfl ?_
  refine hv_iconst (v := 1) dX5_fetch_37 (by decide) ?_
  refine hv_zret dX5_fetch_38 rfl (by first | exact Or.inl rfl | exact Or.inr rfl | assumption) ?_
  refine ⟨rfl, rfl, rfl, off_up (fun k hk => hq1 k (fun qq => hk (by simp at qq ⊢; omega))) (by decide), ?_, ?_, ?_⟩
  · obtain ⟨u1, u2⟩ := hq2
    refine ⟨fun a ha => ?_, ?_⟩
    · simp only [hva_ne (show (12 : Nat) ≠ 17 by decide), hva_ne (show (13 : Nat) ≠ 17 by decide), hva_ne (show (14 : Nat) ≠ 17 by decide), hva_ne (show (15 : Nat) ≠ 17 by decide), hva_ne (show (16 : Nat) ≠ 17 by decide)]; exact u1 a ha
    · simp only [hva_ne (show (11 : Nat) ≠ 17 by decide)]; exact u2
  · rw [hup_eq, pk_un (by decide), hq1 17 (by decide)]
  · rw [hup_eq, pk_us]
theorem c_slotsHeld : hCal G (m_X5_slotsHeld (hEq (some (.int (fHld (σ 20) 3))) (rr 38 51 x y) σ τ)) [.ref (hgA G 17)] shp (rr 38 51 x y) σ τ := by
  refine hv_enter pn_X5 rfl ?_
  have loop : ∀ k i, i + k = 3 → hV G (m_X5_slotsHeld (hEq (some (.int (fHld (σ 20) 3))) (rr 38 51 x y) σ τ)) 0 0 shp 4 [some (.ref (hgA G 17)), some (.int (fHld (σ 20) i)), some (.int (nI i))] [] (rr 38 51 x y) σ τ := by
    intro k
    induction k with
    | zero =>
      intro i hi
      obtain rfl : i = 3 := by omega
      refine hv_iload_n dX5_slotsHeld_4 rfl ?_
      refine hv_iconst (v := 3) dX5_slotsHeld_5 (by decide) ?_
      refine hv_icmp_ge (tgt := 32) dX5_slotsHeld_6 (by decide) (fun c_6 => ?_) (fun c_6 => absurd ((by decide)) c_6)
      refine hv_iload_n dX5_slotsHeld_32 rfl ?_
      refine hv_iret dX5_slotsHeld_33 rfl ?_
      exact ⟨rfl, rfl, rfl, rfl⟩
    | succ k ih =>
      intro i hi
      refine hv_iload_n dX5_slotsHeld_4 rfl ?_
      refine hv_iconst (v := 3) dX5_slotsHeld_5 (by decide) ?_
      refine hv_icmp_ge (tgt := 32) dX5_slotsHeld_6 (by decide) (fun c_6 => absurd c_6 ((nI_ge (b := 3) (by omega) (by decide)))) (fun c_6 => ?_)
      refine hv_iload_n dX5_slotsHeld_9 rfl ?_
      refine hv_aload_n dX5_slotsHeld_10 rfl ?_
      refine hv_getr dX5_slotsHeld_11 fl_X5_18 (by first | rfl | assumption) rfl (by first | rfl | assumption) ?_
      refine hv_iload_n dX5_slotsHeld_14 rfl ?_
      refine hv_zald dX5_slotsHeld_15 (by first | rfl | assumption) rfl (by first | assumption | omega) (by first | decide | assumption) ?_
      refine hv_if_eq (tgt := 23) dX5_slotsHeld_16 (by decide) (fun c_16 => ?_) (fun c_16 => ?_)
      · have hnx : fHld (σ 20) i + 0 = fHld (σ 20) (i + 1) := by rw [fHld, if_pos c_16]
        refine hv_iconst (v := 0) dX5_slotsHeld_23 (by decide) ?_
        refine hv_iadd dX5_slotsHeld_24 ?_
        rw [hnx]
        refine hv_istore_n dX5_slotsHeld_25 rfl rfl ?_
        refine hv_iinc dX5_slotsHeld_26 rfl (nI_1 i) rfl rfl ?_
        refine hv_goto (tgt := 4) dX5_slotsHeld_29 (by decide) ?_
        exact ih (i + 1) (by omega)
      · have hnx : fHld (σ 20) i + 1 = fHld (σ 20) (i + 1) := by rw [fHld, if_neg c_16]
        refine hv_iconst (v := 1) dX5_slotsHeld_19 (by decide) ?_
        refine hv_goto (tgt := 24) dX5_slotsHeld_20 (by decide) ?_
        refine hv_iadd dX5_slotsHeld_24 ?_
        rw [hnx]
        refine hv_istore_n dX5_slotsHeld_25 rfl rfl ?_
        refine hv_iinc dX5_slotsHeld_26 rfl (nI_1 i) rfl rfl ?_
        refine hv_goto (tgt := 4) dX5_slotsHeld_29 (by decide) ?_
        exact ih (i + 1) (by omega)
  refine hv_iconst (v := 0) dX5_slotsHeld_0 (by decide) ?_
  refine hv_istore_n dX5_slotsHeld_1 rfl rfl ?_
  refine hv_iconst (v := 0) dX5_slotsHeld_2 (by decide) ?_
  refine hv_istore_n dX5_slotsHeld_3 rfl rfl ?_
  exact loop 3 0 (by omega)
theorem c_note {n a : Nat} {v : Int32} (hn : σ 35 2 = nI n) (hn20 : n < 20) (hv : v = 0 ∨ v = 1) : hCal G (m_X3_note (hQp [35, 36, 37] (some (.int (nI n))) (rr 38 51 x y) σ τ (fun σ' => σ' 36 = upd (σ 36) n (nI a) ∧ σ' 37 = upd (σ 37) n v ∧ σ' 35 2 = nI (n + 1)))) [.ref (hgA G 35), .int (nI a), .int v] shp (rr 38 51 x y) σ τ := by
  have hvn : vp_nar .boolean v = v := by rcases hv with rfl | rfl <;> rfl
  refine hv_enter pn_X3 rfl ?_
  refine hv_aload_n dX3_note_0 rfl ?_
  refine hv_geti dX3_note_1 fl_X3_49 (by first | rfl | assumption) rfl ?_
  refine hv_if_lt (tgt := 16) dX3_note_4 (by decide) (fun c_4 => absurd c_4 ((by rw [hn]; exact nI_pos (by omega)))) (fun c_4 => ?_)
  refine hv_aload_n dX3_note_7 rfl ?_
  refine hv_geti dX3_note_8 fl_X3_49 (by first | rfl | assumption) rfl ?_
  refine hv_bipush (v := 20) dX3_note_11 (by decide) ?_
  refine hv_icmp_lt (tgt := 18) dX3_note_13 (by decide) (fun c_13 => ?_) (fun c_13 => absurd ((by rw [hn]; exact nI_lt (b := 20) hn20 (by decide))) c_13)
  refine hv_aload_n dX3_note_18 rfl ?_
  refine hv_getr dX3_note_19 fl_X3_9 (by first | rfl | assumption) rfl (by first | rfl | assumption) ?_
  refine hv_aload_n dX3_note_22 rfl ?_
  refine hv_geti dX3_note_23 fl_X3_49 (by first | rfl | assumption) rfl ?_
  refine hv_iload_n dX3_note_26 rfl ?_
  refine hv_iast dX3_note_27 (by first | rfl | assumption) (j := n) hn (by omega) (by first | decide | assumption) ?_
  refine hv_aload_n dX3_note_28 rfl ?_
  refine hv_getr dX3_note_29 fl_X3_15 (by first | rfl | assumption) rfl (by first | rfl | assumption) ?_
  refine hv_aload_n dX3_note_32 rfl ?_
  refine hv_geti dX3_note_33 fl_X3_49 (by first | rfl | assumption) rfl ?_
  refine hv_iload_n dX3_note_36 rfl ?_
  refine hv_zast dX3_note_37 (by first | rfl | assumption) (j := n) hn (by omega) (by first | decide | assumption) ?_
  rw [hvn]
  refine hv_aload_n dX3_note_38 rfl ?_
  refine hv_dup dX3_note_39 rfl ?_
  refine hv_geti dX3_note_40 fl_X3_49 (by first | rfl | assumption) rfl ?_
  refine hv_iconst (v := 1) dX3_note_43 (by decide) ?_
  refine hv_iadd dX3_note_44 ?_
  refine hv_puti dX3_note_45 fl_X3_49 (by first | rfl | assumption) rfl rfl rfl ?_
  refine hv_aload_n dX3_note_48 rfl ?_
  refine hv_geti dX3_note_49 fl_X3_49 (by first | rfl | assumption) rfl ?_
  refine hv_iconst (v := 1) dX3_note_52 (by decide) ?_
  refine hv_isub dX3_note_53 ?_
  refine hv_iret dX3_note_54 rfl ?_
  refine ⟨?_, rfl, rfl, fun k hk => ?_, ?_, ?_, ?_⟩
  · simp only [hup_eq, pk_us, hva_ne (show (35 : Nat) ≠ 37 by decide), hva_ne (show (35 : Nat) ≠ 36 by decide), hn]
    rw [nI_1, nI_pred]
  · simp only [List.mem_cons, List.not_mem_nil, or_false, not_or] at hk
    rw [hva_ne hk.1, hva_ne hk.2.2, hva_ne hk.2.1]
  · rw [hva_ne (by decide), hva_ne (by decide), hup_eq]
  · rw [hva_ne (by decide), hup_eq, hva_ne (by decide)]
  · simp only [hup_eq, pk_us, hva_ne (show (35 : Nat) ≠ 37 by decide), hva_ne (show (35 : Nat) ≠ 36 by decide), hn]
    exact nI_1 n
theorem c_member {m : Nat} {i : Int32} {r : hR} (hm : m < 128) : hCal G (m_X3_member (hEq (some (.int (fMem m i 7 0 0))) r σ τ)) [.ref (hgA G 35), .int (nI m), .int i] shp r σ τ := by
  refine hv_enter pn_X3 rfl ?_
  have loop : ∀ k hs sn (res : Int32), hs + k = 7 → fMem m i k hs sn = res → sn ≤ hs → hV G (m_X3_member (hEq (some (.int res)) r σ τ)) 0 0 shp 5 [some (.ref (hgA G 35)), some (.int (nI m)), some (.int i), some (.int (nI sn)), some (.int (nI hs))] [] r σ τ := by
    intro k
    induction k with
    | zero =>
      intro hs sn res hi hr hle
      obtain rfl : hs = 7 := by omega
      refine hv_iload dX3_member_5 rfl ?_
      refine hv_bipush (v := 7) dX3_member_7 (by decide) ?_
      refine hv_icmp_ge (tgt := 39) dX3_member_9 (by decide) (fun c_9 => ?_) (fun c_9 => absurd ((by decide)) c_9)
      refine hv_iconst (v := -1) dX3_member_39 (by decide) ?_
      refine hv_iret dX3_member_40 rfl ?_
      rw [← hr]; exact ⟨rfl, rfl, rfl, rfl⟩
    | succ k ih =>
      intro hs sn res hi hr hle
      rw [fMem] at hr
      have hbb := b_bit (m := m) (i := hs) hm (by omega)
      refine hv_iload dX3_member_5 rfl ?_
      refine hv_bipush (v := 7) dX3_member_7 (by decide) ?_
      refine hv_icmp_ge (tgt := 39) dX3_member_9 (by decide) (fun c_9 => absurd c_9 ((nI_ge (b := 7) (by omega) (by decide)))) (fun c_9 => ?_)
      refine hv_iload_n dX3_member_12 rfl ?_
      refine hv_iload dX3_member_13 rfl ?_
      refine hv_ishr dX3_member_15 ?_
      refine hv_iconst (v := 1) dX3_member_16 (by decide) ?_
      refine hv_iand dX3_member_17 ?_
      rw [hbb]
      refine hv_iconst (v := 1) dX3_member_18 (by decide) ?_
      refine hv_icmp_ne (tgt := 33) dX3_member_19 (by decide) (fun c_19 => ?_) (fun c_19 => ?_)
      · have htb : ¬ m.testBit hs = true := fun qq => c_19 (by rw [qq]; rfl)
        rw [if_neg htb] at hr
        refine hv_iinc dX3_member_33 rfl (nI_1 hs) rfl rfl ?_
        refine hv_goto (tgt := 5) dX3_member_36 (by decide) ?_
        first
          | exact ih (hs + 1) (sn + 1) res (by omega) hr (by omega)
          | exact ih (hs + 1) sn res (by omega) hr (by omega)
      · have htb : m.testBit hs = true := by
          cases hqq : m.testBit hs with
          | true => rfl
          | false => rw [hqq] at c_19; exact absurd c_19 (by decide)
        rw [if_pos htb] at hr
        refine hv_iload_n dX3_member_22 rfl ?_
        refine hv_iload_n dX3_member_23 rfl ?_
        refine hv_icmp_ne (tgt := 30) dX3_member_24 (by decide) (fun c_24 => ?_) (fun c_24 => ?_)
        · rw [if_neg c_24] at hr
          refine hv_iinc dX3_member_30 rfl (nI_1 sn) rfl rfl ?_
          refine hv_iinc dX3_member_33 rfl (nI_1 hs) rfl rfl ?_
          refine hv_goto (tgt := 5) dX3_member_36 (by decide) ?_
          first
            | exact ih (hs + 1) (sn + 1) res (by omega) hr (by omega)
            | exact ih (hs + 1) sn res (by omega) hr (by omega)
        · rw [if_pos c_24] at hr
          refine hv_iload dX3_member_27 rfl ?_
          refine hv_iret dX3_member_29 rfl ?_
          rw [← hr]; exact ⟨rfl, rfl, rfl, rfl⟩
  refine hv_iconst (v := 0) dX3_member_0 (by decide) ?_
  refine hv_istore_n dX3_member_1 rfl rfl ?_
  refine hv_iconst (v := 0) dX3_member_2 (by decide) ?_
  refine hv_istore dX3_member_3 rfl rfl ?_
  exact loop 7 0 0 _ (by omega) rfl (by omega)
theorem c_bestQuestion {h m : Nat} {hd fe : Nat → Nat} (ok : okP σ h hd fe) (hm : m < 128) : hCal G (m_X3_bestQuestion (hEq (some (.int (fAsk m (fun a => fQui (fun i => fEat hd fe h 0 i) a h) h).1)) (rr 38 51 x y) σ τ)) [.ref (hgA G 35), .ref (hgA G 38), .int (nI m)] shp (rr 38 51 x y) σ τ := by
  have k2 := ok.2.1
  refine hv_enter pn_X3 rfl ?_
  generalize hqf : (fun a => fQui (fun i => fEat hd fe h 0 i) a h) = qf
  have loop : ∀ k i (be fw : Int32), i + k = h → (be, fw) = fAsk m qf i → hV G (m_X3_bestQuestion (hEq (some (.int (fAsk m qf h).1)) (rr 38 51 x y) σ τ)) 0 0 shp 8 [some (.ref (hgA G 35)), some (.ref (hgA G 38)), some (.int (nI m)), some (.int be), some (.int fw), some (.int (nI i)), none, none] [] (rr 38 51 x y) σ τ := by
    intro k
    induction k with
    | zero =>
      intro i be fw hi hbf
      obtain rfl : i = h := by omega
      refine hv_iload dX3_bestQuestion_8 rfl ?_
      refine hv_aload_n dX3_bestQuestion_10 rfl ?_
      refine hv_geti dX3_bestQuestion_11 fl_X3_19 (by first | rfl | assumption) rfl ?_
      refine hv_icmp_ge (tgt := 70) dX3_bestQuestion_14 (by decide) (fun c_14 => ?_) (fun c_14 => absurd ((by rw [ok.1]; exact nI_le (Nat.le_refl _) (by omega))) c_14)
      refine hv_iload_n dX3_bestQuestion_70 rfl ?_
      refine hv_iret dX3_bestQuestion_71 rfl ?_
      rw [← hbf]; exact ⟨rfl, rfl, rfl, rfl⟩
    | succ k ih =>
      intro i be fw hi hbf
      have hqi : fQui (fun i => fEat hd fe h 0 i) i h = qf i := congrFun hqf i
      have hq128 : qf i < 128 := by rw [← hqi]; exact fQui_lt _ _ _ k2
      obtain ⟨lf, hlf⟩ : ∃ lf, fLeft m qf i = lf := ⟨_, rfl⟩
      have hnx : fAsk m qf (i + 1) = if be = -1 ∨ lf < fw then (nI i, lf) else (be, fw) := by rw [fAsk, ← hbf, hlf]
      refine hv_iload dX3_bestQuestion_8 rfl ?_
      refine hv_aload_n dX3_bestQuestion_10 rfl ?_
      refine hv_geti dX3_bestQuestion_11 fl_X3_19 (by first | rfl | assumption) rfl ?_
      refine hv_icmp_ge (tgt := 70) dX3_bestQuestion_14 (by decide) (fun c_14 => absurd c_14 ((by rw [ok.1]; exact nI_ge (by omega) (by omega)))) (fun c_14 => ?_)
      refine hv_iload_n dX3_bestQuestion_17 rfl ?_
      refine hv_aload_n dX3_bestQuestion_18 rfl ?_
      refine hv_aload_n dX3_bestQuestion_19 rfl ?_
      refine hv_iload dX3_bestQuestion_20 rfl ?_
      refine hv_cv2 (c_quietFor ok (by omega)) dX3_bestQuestion_22 ml_X3_55 mk_X3_quietFor (by first | rfl | assumption) rfl rfl rfl rfl rfl ?_
      rintro _ _ _ _ ⟨rfl, rfl, rfl, rfl⟩
      rw [hqi]
      refine hv_iand dX3_bestQuestion_25 ?_
      rw [b_and (by omega) (by omega)]
      refine hv_cs1 (c_bitCount (and_lt128 hm)) dX3_bestQuestion_26 ml_X3_28 mk_J6_bitCount_0f7a4 rfl rfl rfl ?_
      rintro _ _ _ _ ⟨rfl, rfl, rfl, rfl⟩
      refine hv_istore dX3_bestQuestion_29 rfl rfl ?_
      refine hv_iload dX3_bestQuestion_31 rfl ?_
      refine hv_iload_n dX3_bestQuestion_33 rfl ?_
      refine hv_cs1 (c_bitCount hm) dX3_bestQuestion_34 ml_X3_28 mk_J6_bitCount_0f7a4 rfl rfl rfl ?_
      rintro _ _ _ _ ⟨rfl, rfl, rfl, rfl⟩
      refine hv_iload dX3_bestQuestion_37 rfl ?_
      refine hv_isub dX3_bestQuestion_39 ?_
      refine hv_max dX3_bestQuestion_40 ml_X3_59 rfl rfl rfl rfl ?_
      rw [show (if nI (pop7 (m &&& qf i)) < nI (pop7 m) - nI (pop7 (m &&& qf i)) then nI (pop7 m) - nI (pop7 (m &&& qf i)) else nI (pop7 (m &&& qf i))) = lf from hlf]
      refine hv_istore dX3_bestQuestion_43 rfl rfl ?_
      refine hv_iload_n dX3_bestQuestion_45 rfl ?_
      refine hv_iconst (v := -1) dX3_bestQuestion_46 (by decide) ?_
      refine hv_icmp_eq (tgt := 57) dX3_bestQuestion_47 (by decide) (fun c_47 => ?_) (fun c_47 => ?_)
      · rw [if_pos (Or.inl c_47)] at hnx
        refine hv_iload dX3_bestQuestion_57 rfl ?_
        refine hv_istore_n dX3_bestQuestion_59 rfl rfl ?_
        refine hv_iload dX3_bestQuestion_60 rfl ?_
        refine hv_istore dX3_bestQuestion_62 rfl rfl ?_
        refine hv_iinc dX3_bestQuestion_64 rfl (nI_1 i) rfl rfl ?_
        refine hv_goto (tgt := 8) dX3_bestQuestion_67 (by decide) ?_
        refine hv_drop 6 (hv_drop 7 ?_)
        first
          | exact ih (i + 1) be fw (by omega) hnx.symm
          | exact ih (i + 1) (nI i) lf (by omega) hnx.symm
      · refine hv_iload dX3_bestQuestion_50 rfl ?_
        refine hv_iload dX3_bestQuestion_52 rfl ?_
        refine hv_icmp_ge (tgt := 64) dX3_bestQuestion_54 (by decide) (fun c_54 => ?_) (fun c_54 => ?_)
        · rw [if_neg (fun qq => qq.elim (fun q1 => c_47 q1) (fun q2 => Int32.not_lt.mpr c_54 q2))] at hnx
          refine hv_iinc dX3_bestQuestion_64 rfl (nI_1 i) rfl rfl ?_
          refine hv_goto (tgt := 8) dX3_bestQuestion_67 (by decide) ?_
          refine hv_drop 6 (hv_drop 7 ?_)
          first
            | exact ih (i + 1) be fw (by omega) hnx.symm
            | exact ih (i + 1) (nI i) lf (by omega) hnx.symm
        · rw [if_pos (Or.inr (Int32.not_le.mp c_54))] at hnx
          refine hv_iload dX3_bestQuestion_57 rfl ?_
          refine hv_istore_n dX3_bestQuestion_59 rfl rfl ?_
          refine hv_iload dX3_bestQuestion_60 rfl ?_
          refine hv_istore dX3_bestQuestion_62 rfl rfl ?_
          refine hv_iinc dX3_bestQuestion_64 rfl (nI_1 i) rfl rfl ?_
          refine hv_goto (tgt := 8) dX3_bestQuestion_67 (by decide) ?_
          refine hv_drop 6 (hv_drop 7 ?_)
          first
            | exact ih (i + 1) be fw (by omega) hnx.symm
            | exact ih (i + 1) (nI i) lf (by omega) hnx.symm
  refine hv_iconst (v := -1) dX3_bestQuestion_0 (by decide) ?_
  refine hv_istore_n dX3_bestQuestion_1 rfl rfl ?_
  refine hv_iconst (v := 0) dX3_bestQuestion_2 (by decide) ?_
  refine hv_istore dX3_bestQuestion_3 rfl rfl ?_
  refine hv_iconst (v := 0) dX3_bestQuestion_5 (by decide) ?_
  refine hv_istore dX3_bestQuestion_6 rfl rfl ?_
  exact loop h 0 (-1) 0 (by omega) rfl
end S20

