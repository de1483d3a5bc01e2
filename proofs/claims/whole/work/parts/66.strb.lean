abbrev m_J0_isLatin1_aae02 (Q : hPo) : hMe := (hrm 0, 0, 0, yJ0_isLatin1_aae02, cJ0_isLatin1_aae02, 1, (some FieldType.boolean), shp, none, Q)
abbrev m_J0_coder_7d493 (Q : hPo) : hMe := (hrm 0, 0, 0, yJ0_coder_7d493, cJ0_coder_7d493, 1, (some FieldType.byte), shp, none, Q)
abbrev m_J0_length_8abf5 (Q : hPo) : hMe := (hrm 1, 0, 0, yJ0_length_8abf5, cJ0_length_8abf5, 1, (some FieldType.int), shp, none, Q)
abbrev m_J3_checkIndex_8e157 (Q : hPo) : hMe := (hrm 0, 0, 0, yJ3_checkIndex_8e157, cJ3_checkIndex_8e157, 3, (some FieldType.int), shp, none, Q)
abbrev m_J0_checkIndex_df160 (Q : hPo) : hMe := (hrm 1, 0, 0, yJ0_checkIndex_df160, cJ0_checkIndex_df160, 2, (none : Option FieldType), shp, none, Q)
abbrev m_J1_charAt_3b067 (Q : hPo) : hMe := (hrm 2, 0, 0, yJ1_charAt_3b067, cJ1_charAt_3b067, 2, (some FieldType.char), shp, none, Q)
abbrev m_J0_charAt_5068e (Q : hPo) : hMe := (hrm 4, 0, 0, yJ0_charAt_5068e, cJ0_charAt_5068e, 2, (some FieldType.char), shp, none, Q)
abbrev m_J1_canEncode_9a6ad (Q : hPo) : hMe := (hrm 0, 0, 0, yJ1_canEncode_9a6ad, cJ1_canEncode_9a6ad, 1, (some FieldType.boolean), shp, none, Q)
abbrev m_J1_indexOfChar_4cfef (Q : hPo) : hMe := (hrm 0, 0, 0, yJ1_indexOfChar_4cfef, cJ1_indexOfChar_4cfef, 6, (some FieldType.int), shp, none, Q)
abbrev m_J1_indexOf_4cfef (Q : hPo) : hMe := (hrm 1, 0, 0, yJ1_indexOf_4cfef, cJ1_indexOf_4cfef, 4, (some FieldType.int), shp, none, Q)
abbrev m_J0_indexOf_7cf53 (Q : hPo) : hMe := (hrm 5, 0, 0, yJ0_indexOf_7cf53, cJ0_indexOf_7cf53, 3, (some FieldType.int), shp, none, Q)
abbrev m_J0_indexOf_0f7a4 (Q : hPo) : hMe := (hrm 6, 0, 0, yJ0_indexOf_0f7a4, cJ0_indexOf_0f7a4, 2, (some FieldType.int), shp, none, Q)
/-- the letters of the list of words -/
def wch (j : Nat) : Int32 := (hby.getD 0 []).getD j 0
theorem wch_ok : ∀ j, j < 138 → ((wch j &&& 255).toUInt32 % 65536).toInt32 = wch j := by decide +kernel
theorem wch_nar : ∀ j, j < 138 → narrow .char (.int (wch j)) = .int (wch j) := by decide +kernel
/-- the place of a sign among the nine, from place k on -/
def ixF (c : Int32) : Nat → Nat → Int32
  | 0, _ => -1
  | n + 1, k => if (hby.getD 1 []).getD k 0 = c.toInt8.toInt32 then nI k else ixF c n (k + 1)
section S66
variable {G : hGl} {r : hR} {σ : hS} {τ : hT}
theorem s_isLatin1 {i : Nat} (hi : i < 2) : hCal G (m_J0_isLatin1_aae02 (hEq (some (.int 1)) r σ τ)) [.ref (hgK G i)] shp r σ τ := by
  refine hv_enter pn_J0 rfl ?_
  refine hv_gets38 dJ0_isLatin1_aae02_0 rfl ?_
  refine hv_if_eq (tgt := 17) dJ0_isLatin1_aae02_3 (by decide) (fun c_3 => absurd c_3 ((by decide))) (fun c_3 => ?_)
  refine hv_aload_n dJ0_isLatin1_aae02_6 rfl ?_
  refine hv_scoder hi dJ0_isLatin1_aae02_7 rfl ?_
  refine hv_if_ne (tgt := 17) dJ0_isLatin1_aae02_10 (by decide) (fun c_10 => absurd (rfl) c_10) (fun c_10 => ?_)
  refine hv_iconst (v := 1) dJ0_isLatin1_aae02_13 (by decide) ?_
  refine hv_goto (tgt := 18) dJ0_isLatin1_aae02_14 (by decide) ?_
  refine hv_zret dJ0_isLatin1_aae02_18 rfl (by first | exact Or.inl rfl | exact Or.inr rfl | assumption) ?_
  exact ⟨rfl, rfl, rfl, rfl⟩
theorem s_coder {i : Nat} (hi : i < 2) : hCal G (m_J0_coder_7d493 (hEq (some (.int 0)) r σ τ)) [.ref (hgK G i)] shp r σ τ := by
  refine hv_enter pn_J0 rfl ?_
  refine hv_gets38 dJ0_coder_7d493_0 rfl ?_
  refine hv_if_eq (tgt := 13) dJ0_coder_7d493_3 (by decide) (fun c_3 => absurd c_3 ((by decide))) (fun c_3 => ?_)
  refine hv_aload_n dJ0_coder_7d493_6 rfl ?_
  refine hv_scoder hi dJ0_coder_7d493_7 rfl ?_
  refine hv_goto (tgt := 14) dJ0_coder_7d493_10 (by decide) ?_
  refine hv_nret dJ0_coder_7d493_14 rfl rfl ?_
  exact ⟨rfl, rfl, rfl, rfl⟩
theorem s_length {i : Nat} (hi : i < 2) : hCal G (m_J0_length_8abf5 (hEq (some (.int (nI ([138, 9].getD i 0)))) r σ τ)) [.ref (hgK G i)] shp r σ τ := by
  have hs : nI ([138, 9].getD i 0) >>> ((0 : Int32) &&& 31) = nI ([138, 9].getD i 0) := by
    rcases (show i = 0 ∨ i = 1 by omega) with rfl | rfl <;> decide
  refine hv_enter pn_J0 rfl ?_
  refine hv_aload_n dJ0_length_8abf5_0 rfl ?_
  refine hv_svalue hi dJ0_length_8abf5_1 rfl ?_
  refine hv_salen hi dJ0_length_8abf5_4 ?_
  refine hv_aload_n dJ0_length_8abf5_5 rfl ?_
  refine hv_cw0 hi (s_coder hi) dJ0_length_8abf5_6 ml_J0_335 mk_J0_coder_7d493 rfl rfl rfl rfl ?_
  rintro _ _ _ _ ⟨rfl, rfl, rfl, rfl⟩
  refine hv_ishr dJ0_length_8abf5_9 ?_
  refine hv_iret dJ0_length_8abf5_10 rfl ?_
  rw [hs]; exact ⟨rfl, rfl, rfl, rfl⟩
theorem s_check3 {j n : Nat} {v : Value} (hj : j < n) (hn : n < 2 ^ 31) (hv : v = .null ∨ ∃ t, v = .ref t) : hCal G (m_J3_checkIndex_8e157 (hEq (some (.int (nI j))) r σ τ)) [.int (nI j), .int (nI n), v] shp r σ τ := by
  rcases hv with rfl | ⟨t, rfl⟩
  · skip
    refine hv_enter pn_J3 rfl ?_
    refine hv_iload_n dJ3_checkIndex_8e157_0 rfl ?_
    refine hv_if_lt (tgt := 9) dJ3_checkIndex_8e157_1 (by decide) (fun c_1 => absurd c_1 ((nI_pos (by omega)))) (fun c_1 => ?_)
    refine hv_iload_n dJ3_checkIndex_8e157_4 rfl ?_
    refine hv_iload_n dJ3_checkIndex_8e157_5 rfl ?_
    refine hv_icmp_lt (tgt := 16) dJ3_checkIndex_8e157_6 (by decide) (fun c_6 => ?_) (fun c_6 => absurd ((nI_lt hj hn)) c_6)
    refine hv_iload_n dJ3_checkIndex_8e157_16 rfl ?_
    refine hv_iret dJ3_checkIndex_8e157_17 rfl ?_
    exact ⟨rfl, rfl, rfl, rfl⟩
  · skip
    refine hv_enter pn_J3 rfl ?_
    refine hv_iload_n dJ3_checkIndex_8e157_0 rfl ?_
    refine hv_if_lt (tgt := 9) dJ3_checkIndex_8e157_1 (by decide) (fun c_1 => absurd c_1 ((nI_pos (by omega)))) (fun c_1 => ?_)
    refine hv_iload_n dJ3_checkIndex_8e157_4 rfl ?_
    refine hv_iload_n dJ3_checkIndex_8e157_5 rfl ?_
    refine hv_icmp_lt (tgt := 16) dJ3_checkIndex_8e157_6 (by decide) (fun c_6 => ?_) (fun c_6 => absurd ((nI_lt hj hn)) c_6)
    refine hv_iload_n dJ3_checkIndex_8e157_16 rfl ?_
    refine hv_iret dJ3_checkIndex_8e157_17 rfl ?_
    exact ⟨rfl, rfl, rfl, rfl⟩
theorem s_check {j n : Nat} (hj : j < n) (hn : n < 2 ^ 31) : hCal G (m_J0_checkIndex_df160 (hEq none r σ τ)) [.int (nI j), .int (nI n)] shp r σ τ := by
  refine hv_enter pn_J0 rfl ?_
  have tail : ∀ v : Value, (v = .null ∨ ∃ t, v = .ref t) → hV G (m_J0_checkIndex_df160 (hEq none r σ τ)) 0 0 shp 5 [some (.int (nI j)), some (.int (nI n))] [v, .int (nI n), .int (nI j)] r σ τ := by
    intro v hv
    refine hv_cs3 (s_check3 hj hn hv) dJ0_checkIndex_df160_5 ml_J0_1059 mk_J3_checkIndex_8e157 rfl rfl rfl ?_
    rintro _ _ _ _ ⟨rfl, rfl, rfl, rfl⟩
    refine hv_pop dJ0_checkIndex_df160_8 rfl ?_
    refine hv_vret dJ0_checkIndex_df160_9 rfl ?_
    exact ⟨rfl, rfl, rfl, rfl⟩
  refine hv_iload_n dJ0_checkIndex_df160_0 rfl ?_
  refine hv_iload_n dJ0_checkIndex_df160_1 rfl ?_
  refine hv_gets1053 dJ0_checkIndex_df160_2 rfl (tail _ (Or.inl rfl)) (fun t => tail _ (Or.inr ⟨t, rfl⟩))
theorem s_charAt1 {j : Nat} (hj : j < 138) : hCal G (m_J1_charAt_3b067 (hEq (some (.int (wch j))) r σ τ)) [.ref (hgV G 0), .int (nI j)] shp r σ τ := by
  refine hv_enter pn_J1 rfl ?_
  refine hv_iload_n dJ1_charAt_3b067_0 rfl ?_
  refine hv_aload_n dJ1_charAt_3b067_1 rfl ?_
  refine hv_salen (i := 0) (by decide) dJ1_charAt_3b067_2 ?_
  refine hv_cs2 (s_check (n := 138) hj (by decide)) dJ1_charAt_3b067_3 ml_J1_9 mk_J0_checkIndex_df160 rfl rfl rfl ?_
  rintro _ _ _ _ ⟨rfl, rfl, rfl, rfl⟩
  refine hv_aload_n dJ1_charAt_3b067_6 rfl ?_
  refine hv_iload_n dJ1_charAt_3b067_7 rfl ?_
  refine hv_sbald (i := 0) (by decide) hj dJ1_charAt_3b067_8 ?_
  refine hv_sipush (v := 255) dJ1_charAt_3b067_9 (by decide) ?_
  refine hv_iand dJ1_charAt_3b067_12 ?_
  refine hv_i2c dJ1_charAt_3b067_13 ?_
  rw [show (((hby.getD 0 []).getD j 0 &&& 255).toUInt32 % 65536).toInt32 = wch j from wch_ok j hj]
  refine hv_nret dJ1_charAt_3b067_14 rfl (wch_nar j hj) ?_
  exact ⟨rfl, rfl, rfl, rfl⟩
theorem s_charAt {j : Nat} (hj : j < 138) : hCal G (m_J0_charAt_5068e (hEq (some (.int (wch j))) r σ τ)) [.ref (hgK G 0), .int (nI j)] shp r σ τ := by
  refine hv_enter pn_J0 rfl ?_
  refine hv_aload_n dJ0_charAt_5068e_0 rfl ?_
  refine hv_cw0 (i := 0) (by decide) (s_isLatin1 (by decide)) dJ0_charAt_5068e_1 ml_J0_492 mk_J0_isLatin1_aae02 rfl rfl rfl rfl ?_
  rintro _ _ _ _ ⟨rfl, rfl, rfl, rfl⟩
  refine hv_if_eq (tgt := 16) dJ0_charAt_5068e_4 (by decide) (fun c_4 => absurd c_4 ((by decide))) (fun c_4 => ?_)
  refine hv_aload_n dJ0_charAt_5068e_7 rfl ?_
  refine hv_svalue (i := 0) (by decide) dJ0_charAt_5068e_8 rfl ?_
  refine hv_iload_n dJ0_charAt_5068e_11 rfl ?_
  refine hv_cs2 (s_charAt1 hj) dJ0_charAt_5068e_12 ml_J0_495 mk_J1_charAt_3b067 rfl rfl rfl ?_
  rintro _ _ _ _ ⟨rfl, rfl, rfl, rfl⟩
  refine hv_nret dJ0_charAt_5068e_15 rfl (wch_nar j hj) ?_
  exact ⟨rfl, rfl, rfl, rfl⟩
theorem s_canEncode {c : Int32} (h0 : 0 ≤ c) (h1 : c ≤ 255) : hCal G (m_J1_canEncode_9a6ad (hEq (some (.int 1)) r σ τ)) [.int c] shp r σ τ := by
  refine hv_enter pn_J1 rfl ?_
  refine hv_iload_n dJ1_canEncode_9a6ad_0 rfl ?_
  refine hv_if_lt (tgt := 15) dJ1_canEncode_9a6ad_1 (by decide) (fun c_1 => absurd c_1 ((Int32.not_lt.mpr h0))) (fun c_1 => ?_)
  refine hv_iload_n dJ1_canEncode_9a6ad_4 rfl ?_
  refine hv_sipush (v := 255) dJ1_canEncode_9a6ad_5 (by decide) ?_
  refine hv_icmp_gt (tgt := 15) dJ1_canEncode_9a6ad_8 (by decide) (fun c_8 => absurd c_8 ((Int32.not_lt.mpr h1))) (fun c_8 => ?_)
  refine hv_iconst (v := 1) dJ1_canEncode_9a6ad_11 (by decide) ?_
  refine hv_goto (tgt := 16) dJ1_canEncode_9a6ad_12 (by decide) ?_
  refine hv_zret dJ1_canEncode_9a6ad_16 rfl (by first | exact Or.inl rfl | exact Or.inr rfl | assumption) ?_
  exact ⟨rfl, rfl, rfl, rfl⟩
theorem s_canEncode0 {c : Int32} (h1 : 255 < c) : hCal G (m_J1_canEncode_9a6ad (hEq (some (.int 0)) r σ τ)) [.int c] shp r σ τ := by
  refine hv_enter pn_J1 rfl ?_
  refine hv_iload_n dJ1_canEncode_9a6ad_0 rfl ?_
  refine hv_if_lt (tgt := 15) dJ1_canEncode_9a6ad_1 (by decide) (fun c_1 => absurd c_1 ((fun q => absurd (Int32.lt_of_lt_of_le (Int32.lt_of_lt_of_le h1 (Int32.le_of_lt q)) (by decide)) Int32.lt_irrefl))) (fun c_1 => ?_)
  refine hv_iload_n dJ1_canEncode_9a6ad_4 rfl ?_
  refine hv_sipush (v := 255) dJ1_canEncode_9a6ad_5 (by decide) ?_
  refine hv_icmp_gt (tgt := 15) dJ1_canEncode_9a6ad_8 (by decide) (fun c_8 => ?_) (fun c_8 => absurd (h1) c_8)
  refine hv_iconst (v := 0) dJ1_canEncode_9a6ad_15 (by decide) ?_
  refine hv_zret dJ1_canEncode_9a6ad_16 rfl (by first | exact Or.inl rfl | exact Or.inr rfl | assumption) ?_
  exact ⟨rfl, rfl, rfl, rfl⟩
theorem s_indexOfChar {c : Int32} : hCal G (m_J1_indexOfChar_4cfef (hEq (some (.int (ixF c 9 0))) r σ τ)) [.ref (hgV G 1), .int c, .int 0, .int 9] shp r σ τ := by
  refine hv_enter pn_J1 rfl ?_
  have loop : ∀ k i, i + k = 9 → ∀ res, ixF c k i = res → hV G (m_J1_indexOfChar_4cfef (hEq (some (.int res)) r σ τ)) 0 0 shp 7 [some (.ref (hgV G 1)), some (.int c), some (.int 0), some (.int 9), some (.int c.toInt8.toInt32), some (.int (nI i))] [] r σ τ := by
    intro k
    induction k with
    | zero =>
      intro i hi res hr
      obtain rfl : i = 9 := by omega
      refine hv_iload dJ1_indexOfChar_4cfef_7 rfl ?_
      refine hv_iload_n dJ1_indexOfChar_4cfef_9 rfl ?_
      refine hv_icmp_ge (tgt := 31) dJ1_indexOfChar_4cfef_10 (by decide) (fun c_10 => ?_) (fun c_10 => absurd ((by decide)) c_10)
      refine hv_iconst (v := -1) dJ1_indexOfChar_4cfef_31 (by decide) ?_
      refine hv_iret dJ1_indexOfChar_4cfef_32 rfl ?_
      rw [← hr]; exact ⟨rfl, rfl, rfl, rfl⟩
    | succ k ih =>
      intro i hi res hr
      rw [ixF] at hr
      refine hv_iload dJ1_indexOfChar_4cfef_7 rfl ?_
      refine hv_iload_n dJ1_indexOfChar_4cfef_9 rfl ?_
      refine hv_icmp_ge (tgt := 31) dJ1_indexOfChar_4cfef_10 (by decide) (fun c_10 => absurd c_10 ((nI_ge (b := 9) (by omega) (by decide)))) (fun c_10 => ?_)
      refine hv_aload_n dJ1_indexOfChar_4cfef_13 rfl ?_
      refine hv_iload dJ1_indexOfChar_4cfef_14 rfl ?_
      refine hv_sbald (i := 1) (by decide) (show i < 9 by omega) dJ1_indexOfChar_4cfef_16 ?_
      refine hv_iload dJ1_indexOfChar_4cfef_17 rfl ?_
      refine hv_icmp_ne (tgt := 25) dJ1_indexOfChar_4cfef_19 (by decide) (fun c_19 => ?_) (fun c_19 => ?_)
      · rw [if_neg c_19] at hr
        refine hv_iinc dJ1_indexOfChar_4cfef_25 rfl (nI_1 i) rfl rfl ?_
        refine hv_goto (tgt := 7) dJ1_indexOfChar_4cfef_28 (by decide) ?_
        exact ih (i + 1) (by omega) res hr
      · rw [if_pos c_19] at hr
        refine hv_iload dJ1_indexOfChar_4cfef_22 rfl ?_
        refine hv_iret dJ1_indexOfChar_4cfef_24 rfl ?_
        rw [← hr]; exact ⟨rfl, rfl, rfl, rfl⟩
  refine hv_iload_n dJ1_indexOfChar_4cfef_0 rfl ?_
  refine hv_i2b dJ1_indexOfChar_4cfef_1 ?_
  refine hv_istore dJ1_indexOfChar_4cfef_2 rfl rfl ?_
  refine hv_iload_n dJ1_indexOfChar_4cfef_4 rfl ?_
  refine hv_istore dJ1_indexOfChar_4cfef_5 rfl rfl ?_
  exact loop 9 0 rfl _ rfl
theorem s_indexOf4 {c : Int32} (h0 : 0 ≤ c) (h1 : c ≤ 255) : hCal G (m_J1_indexOf_4cfef (hEq (some (.int (ixF c 9 0))) r σ τ)) [.ref (hgV G 1), .int c, .int 0, .int 9] shp r σ τ := by
  refine hv_enter pn_J1 rfl ?_
  refine hv_iload_n dJ1_indexOf_4cfef_0 rfl ?_
  refine hv_cs1 (s_canEncode h0 h1) dJ1_indexOf_4cfef_1 ml_J1_88 mk_J1_canEncode_9a6ad rfl rfl rfl ?_
  rintro _ _ _ _ ⟨rfl, rfl, rfl, rfl⟩
  refine hv_if_ne (tgt := 9) dJ1_indexOf_4cfef_4 (by decide) (fun c_4 => ?_) (fun c_4 => absurd c_4 ((by decide)))
  refine hv_iload_n dJ1_indexOf_4cfef_9 rfl ?_
  refine hv_iconst (v := 0) dJ1_indexOf_4cfef_10 (by decide) ?_
  refine hv_max dJ1_indexOf_4cfef_11 ml_J1_92 rfl rfl rfl rfl ?_
  rw [show (if (0 : Int32) < 0 then (0 : Int32) else 0) = 0 from rfl]
  refine hv_istore_n dJ1_indexOf_4cfef_14 rfl rfl ?_
  refine hv_iload_n dJ1_indexOf_4cfef_15 rfl ?_
  refine hv_aload_n dJ1_indexOf_4cfef_16 rfl ?_
  refine hv_salen (i := 1) (by decide) dJ1_indexOf_4cfef_17 ?_
  refine hv_min dJ1_indexOf_4cfef_18 ml_J1_38 rfl rfl rfl rfl ?_
  rw [show (if (9 : Int32) > nI ([138, 9].getD 1 0) then nI ([138, 9].getD 1 0) else 9) = 9 from rfl]
  refine hv_istore_n dJ1_indexOf_4cfef_21 rfl rfl ?_
  refine hv_iload_n dJ1_indexOf_4cfef_22 rfl ?_
  refine hv_iload_n dJ1_indexOf_4cfef_23 rfl ?_
  refine hv_icmp_lt (tgt := 29) dJ1_indexOf_4cfef_24 (by decide) (fun c_24 => ?_) (fun c_24 => absurd ((by decide)) c_24)
  refine hv_aload_n dJ1_indexOf_4cfef_29 rfl ?_
  refine hv_iload_n dJ1_indexOf_4cfef_30 rfl ?_
  refine hv_iload_n dJ1_indexOf_4cfef_31 rfl ?_
  refine hv_iload_n dJ1_indexOf_4cfef_32 rfl ?_
  refine hv_cs4 (s_indexOfChar) dJ1_indexOf_4cfef_33 ml_J1_95 mk_J1_indexOfChar_4cfef rfl rfl rfl ?_
  rintro _ _ _ _ ⟨rfl, rfl, rfl, rfl⟩
  refine hv_iret dJ1_indexOf_4cfef_36 rfl ?_
  exact ⟨rfl, rfl, rfl, rfl⟩
theorem s_indexOf2 {c : Int32} (h0 : 0 ≤ c) (h1 : c ≤ 255) : hCal G (m_J0_indexOf_7cf53 (hEq (some (.int (ixF c 9 0))) r σ τ)) [.ref (hgK G 1), .int c, .int 0] shp r σ τ := by
  refine hv_enter pn_J0 rfl ?_
  refine hv_aload_n dJ0_indexOf_7cf53_0 rfl ?_
  refine hv_cw0 (i := 1) (by decide) (s_isLatin1 (by decide)) dJ0_indexOf_7cf53_1 ml_J0_492 mk_J0_isLatin1_aae02 rfl rfl rfl rfl ?_
  rintro _ _ _ _ ⟨rfl, rfl, rfl, rfl⟩
  refine hv_if_eq (tgt := 23) dJ0_indexOf_7cf53_4 (by decide) (fun c_4 => absurd c_4 ((by decide))) (fun c_4 => ?_)
  refine hv_aload_n dJ0_indexOf_7cf53_7 rfl ?_
  refine hv_svalue (i := 1) (by decide) dJ0_indexOf_7cf53_8 rfl ?_
  refine hv_iload_n dJ0_indexOf_7cf53_11 rfl ?_
  refine hv_iload_n dJ0_indexOf_7cf53_12 rfl ?_
  refine hv_aload_n dJ0_indexOf_7cf53_13 rfl ?_
  refine hv_cw0 (i := 1) (by decide) (s_length (by decide)) dJ0_indexOf_7cf53_14 ml_J0_505 mk_J0_length_8abf5 rfl rfl rfl rfl ?_
  rintro _ _ _ _ ⟨rfl, rfl, rfl, rfl⟩
  refine hv_cs4 (s_indexOf4 h0 h1) dJ0_indexOf_7cf53_17 ml_J0_637 mk_J1_indexOf_4cfef rfl rfl rfl ?_
  rintro _ _ _ _ ⟨rfl, rfl, rfl, rfl⟩
  refine hv_goto (tgt := 36) dJ0_indexOf_7cf53_20 (by decide) ?_
  refine hv_iret dJ0_indexOf_7cf53_36 rfl ?_
  exact ⟨rfl, rfl, rfl, rfl⟩
theorem s_indexOf {c : Int32} (h0 : 0 ≤ c) (h1 : c ≤ 255) : hCal G (m_J0_indexOf_0f7a4 (hEq (some (.int (ixF c 9 0))) r σ τ)) [.ref (hgK G 1), .int c] shp r σ τ := by
  refine hv_enter pn_J0 rfl ?_
  refine hv_aload_n dJ0_indexOf_0f7a4_0 rfl ?_
  refine hv_iload_n dJ0_indexOf_0f7a4_1 rfl ?_
  refine hv_iconst (v := 0) dJ0_indexOf_0f7a4_2 (by decide) ?_
  refine hv_cw2 (i := 1) (by decide) (s_indexOf2 h0 h1) dJ0_indexOf_0f7a4_3 ml_J0_633 mk_J0_indexOf_7cf53 rfl rfl rfl rfl ?_
  rintro _ _ _ _ ⟨rfl, rfl, rfl, rfl⟩
  refine hv_iret dJ0_indexOf_0f7a4_6 rfl ?_
  exact ⟨rfl, rfl, rfl, rfl⟩
end S66

