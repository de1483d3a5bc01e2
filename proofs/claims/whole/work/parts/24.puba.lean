abbrev m_X11_isHouse (Q : hPo) : hMe := (hrm 0, 0, 0, yX11_isHouse, cX11_isHouse, 2, (some FieldType.boolean), shp, none, Q)
abbrev m_X11_isByHand (Q : hPo) : hMe := (hrm 0, 0, 0, yX11_isByHand, cX11_isByHand, 2, (some FieldType.boolean), shp, none, Q)
abbrev m_X11_isSpan (Q : hPo) : hMe := (hrm 0, 0, 0, yX11_isSpan, cX11_isSpan, 2, (some FieldType.boolean), shp, none, Q)
abbrev m_X11_isLook (Q : hPo) : hMe := (hrm 0, 0, 0, yX11_isLook, cX11_isLook, 2, (some FieldType.boolean), shp, none, Q)
abbrev m_X11_isFirstOrSecond (Q : hPo) : hMe := (hrm 0, 0, 0, yX11_isFirstOrSecond, cX11_isFirstOrSecond, 2, (some FieldType.boolean), shp, none, Q)
abbrev m_X11_votesHad (Q : hPo) : hMe := (hrm 4, 0, 0, yX11_votesHad, cX11_votesHad, 2, (some FieldType.int), shp, none, Q)
abbrev m_X11_allVotes (Q : hPo) : hMe := (hrm 4, 0, 0, yX11_allVotes, cX11_allVotes, 1, (some FieldType.int), shp, none, Q)
abbrev m_X11_panic (Q : hPo) : hMe := (hrm 2, 0, 0, yX11_panic, cX11_panic, 2, (some FieldType.int), shp, none, Q)
abbrev m_X11_quiet (Q : hPo) : hMe := (hrm 4, 0, 0, yX11_quiet, cX11_quiet, 2, (some FieldType.int), shp, none, Q)
abbrev m_X11_spark (Q : hPo) : hMe := (hrm 3, 0, 0, yX11_spark, cX11_spark, 3, (some FieldType.int), shp, none, Q)
abbrev m_X11_calm (Q : hPo) : hMe := (hrm 4, 0, 0, yX11_calm, cX11_calm, 5, (some FieldType.int), shp, none, Q)
abbrev m_X11_began (Q : hPo) : hMe := (hrm 3, 0, 0, yX11_began, cX11_began, 4, (some FieldType.int), shp, none, Q)
abbrev m_X11_ask (Q : hPo) : hMe := (hrm 5, 0, 0, yX11_ask, cX11_ask, 3, (some FieldType.int), shp, none, Q)
abbrev m_X11_tell (Q : hPo) : hMe := (hrm 1, 0, 0, yX11_tell, cX11_tell, 3, (some FieldType.int), shp, none, Q)
abbrev m_X11_forget (Q : hPo) : hMe := (hrm 0, 0, 0, yX11_forget, cX11_forget, 2, (some FieldType.int), shp, none, Q)
abbrev m_X11_priceIn (Q : hPo) : hMe := (hrm 6, 0, 0, yX11_priceIn, cX11_priceIn, 2, (some FieldType.int), shp, none, Q)
abbrev m_X11_allIn (Q : hPo) : hMe := (hrm 6, 0, 0, yX11_allIn, cX11_allIn, 2, (some FieldType.int), shp, none, Q)
abbrev m_X11_allies (Q : hPo) : hMe := (hrm 4, 0, 0, yX11_allies, cX11_allies, 2, (some FieldType.int), shp, none, Q)
def isH (h : Nat) (a : Int32) : Bool := decide (¬ a < 0 ∧ ¬ nI h ≤ a)
def inI (lo hi a : Int32) : Bool := decide (lo ≤ a ∧ a ≤ hi)
def hsel (h : Nat) (a d : Int32) (f : Nat → Int32) : Int32 := if isH h a = true then f a.toNatClampNeg else d
theorem hsel_no {h : Nat} {a d : Int32} {f : Nat → Int32} (q : isH h a = false) : hsel h a d f = d := by rw [hsel, q]; rfl
theorem isH_nI {h i : Nat} (hi : i < h) (hh : h ≤ 7) : isH h (nI i) = true := decide_eq_true ⟨nI_pos (by omega), nI_ge hi (by omega)⟩
theorem hsel_yes {h i : Nat} {d : Int32} {f : Nat → Int32} (hi : i < h) (hh : h ≤ 7) : hsel h (nI i) d f = f i := by
  rw [hsel, isH_nI hi hh, if_pos rfl, nI_clamp (by omega)]
theorem isH_ix {h : Nat} {a : Int32} (hh : h ≤ 7) (q : isH h a = true) : ∃ i, i < h ∧ a = nI i := by
  have hq := of_decide_eq_true q
  rcases pk_ix a (n := h) (by omega) with c | c | c
  · exact absurd c hq.1
  · exact absurd c hq.2
  · exact c
theorem inI_ix {n : Nat} {a : Int32} (hn : n ≤ 1000) (q : inI 0 (nI n) a = true) : ∃ i, i ≤ n ∧ a = nI i := by
  have hq := of_decide_eq_true q
  rcases pk_ix a (n := n + 1) (by omega) with c | c | ⟨i, hi, rfl⟩
  · exact absurd c (Int32.not_lt.mpr hq.1)
  · exfalso
    have h1 := Int32.le_trans c hq.2
    exact nI_ge (a := n) (b := n + 1) (by omega) (by omega) h1
  · exact ⟨i, by omega, rfl⟩
theorem bI_0 {p : Bool} (q : bI p = 0) : p = false := by cases p with
  | false => rfl
  | true => exact absurd q (by decide)
theorem bI_1 {p : Bool} (q : ¬ bI p = 0) : p = true := by cases p with
  | true => rfl
  | false => exact absurd rfl q
abbrev xQ : List Nat := [21, 22, 23, 24, 25, 26, 27, 28, 29, 30, 31, 32, 33, 34, 49, 50]
section S24
variable {G : hGl} {σ : hS} {τ : hT} {x y : Option Nat}
theorem c_isHouse {h : Nat} {a : Int32} (h38 : σ 38 7 = nI h) : hCal G (m_X11_isHouse (hEq (some (.int (bI (isH h a)))) (rr 38 51 x y) σ τ)) [.ref (hgA G 0), .int a] shp (rr 38 51 x y) σ τ := by
  refine hv_enter pn_X11 rfl ?_
  refine hv_iload_n dX11_isHouse_0 rfl ?_
  refine hv_if_lt (tgt := 19) dX11_isHouse_1 (by decide) (fun c_1 => ?_) (fun c_1 => ?_)
  · refine hv_iconst (v := 0) dX11_isHouse_19 (by decide) ?_
    refine hv_zret dX11_isHouse_20 rfl (by first | exact Or.inl rfl | exact Or.inr rfl | assumption) ?_
    first
      | (rw [show isH h a = true from decide_eq_true ⟨c_1, c_12⟩]; exact ⟨rfl, rfl, rfl, rfl⟩)
      | (rw [show isH h a = false from decide_eq_false (fun qq => qq.2 c_12)]; exact ⟨rfl, rfl, rfl, rfl⟩)
      | (rw [show isH h a = false from decide_eq_false (fun qq => qq.1 c_1)]; exact ⟨rfl, rfl, rfl, rfl⟩)
  · refine hv_iload_n dX11_isHouse_4 rfl ?_
    refine hv_aload_n dX11_isHouse_5 rfl ?_
    refine hv_getr dX11_isHouse_6 fl_X11_81 (by first | rfl | assumption) rfl (by first | rfl | assumption) ?_
    refine hv_geti dX11_isHouse_9 fl_X11_241 (by first | rfl | assumption) rfl ?_
    rw [h38]
    refine hv_icmp_ge (tgt := 19) dX11_isHouse_12 (by decide) (fun c_12 => ?_) (fun c_12 => ?_)
    · refine hv_iconst (v := 0) dX11_isHouse_19 (by decide) ?_
      refine hv_zret dX11_isHouse_20 rfl (by first | exact Or.inl rfl | exact Or.inr rfl | assumption) ?_
      first
        | (rw [show isH h a = true from decide_eq_true ⟨c_1, c_12⟩]; exact ⟨rfl, rfl, rfl, rfl⟩)
        | (rw [show isH h a = false from decide_eq_false (fun qq => qq.2 c_12)]; exact ⟨rfl, rfl, rfl, rfl⟩)
        | (rw [show isH h a = false from decide_eq_false (fun qq => qq.1 c_1)]; exact ⟨rfl, rfl, rfl, rfl⟩)
    · refine hv_iconst (v := 1) dX11_isHouse_15 (by decide) ?_
      refine hv_goto (tgt := 20) dX11_isHouse_16 (by decide) ?_
      refine hv_zret dX11_isHouse_20 rfl (by first | exact Or.inl rfl | exact Or.inr rfl | assumption) ?_
      first
        | (rw [show isH h a = true from decide_eq_true ⟨c_1, c_12⟩]; exact ⟨rfl, rfl, rfl, rfl⟩)
        | (rw [show isH h a = false from decide_eq_false (fun qq => qq.2 c_12)]; exact ⟨rfl, rfl, rfl, rfl⟩)
        | (rw [show isH h a = false from decide_eq_false (fun qq => qq.1 c_1)]; exact ⟨rfl, rfl, rfl, rfl⟩)
theorem c_isByHand {n : Int32} {r : hR} : hCal G (m_X11_isByHand (hEq (some (.int (bI (inI 1 99 n)))) r σ τ)) [.ref (hgA G 0), .int n] shp r σ τ := by
  refine hv_enter pn_X11 rfl ?_
  refine hv_iload_n dX11_isByHand_0 rfl ?_
  refine hv_iconst (v := 1) dX11_isByHand_1 (by decide) ?_
  refine hv_icmp_lt (tgt := 15) dX11_isByHand_2 (by decide) (fun c_2 => ?_) (fun c_2 => ?_)
  · refine hv_iconst (v := 0) dX11_isByHand_15 (by decide) ?_
    refine hv_zret dX11_isByHand_16 rfl (by first | exact Or.inl rfl | exact Or.inr rfl | assumption) ?_
    first
      | (rw [show inI 1 99 n = true from decide_eq_true ⟨Int32.not_lt.mp c_2, Int32.not_lt.mp c_8⟩]; exact ⟨rfl, rfl, rfl, rfl⟩)
      | (rw [show inI 1 99 n = false from decide_eq_false (fun qq => Int32.not_lt.mpr qq.2 c_8)]; exact ⟨rfl, rfl, rfl, rfl⟩)
      | (rw [show inI 1 99 n = false from decide_eq_false (fun qq => Int32.not_lt.mpr qq.1 c_2)]; exact ⟨rfl, rfl, rfl, rfl⟩)
  · refine hv_iload_n dX11_isByHand_5 rfl ?_
    refine hv_bipush (v := 99) dX11_isByHand_6 (by decide) ?_
    refine hv_icmp_gt (tgt := 15) dX11_isByHand_8 (by decide) (fun c_8 => ?_) (fun c_8 => ?_)
    · refine hv_iconst (v := 0) dX11_isByHand_15 (by decide) ?_
      refine hv_zret dX11_isByHand_16 rfl (by first | exact Or.inl rfl | exact Or.inr rfl | assumption) ?_
      first
        | (rw [show inI 1 99 n = true from decide_eq_true ⟨Int32.not_lt.mp c_2, Int32.not_lt.mp c_8⟩]; exact ⟨rfl, rfl, rfl, rfl⟩)
        | (rw [show inI 1 99 n = false from decide_eq_false (fun qq => Int32.not_lt.mpr qq.2 c_8)]; exact ⟨rfl, rfl, rfl, rfl⟩)
        | (rw [show inI 1 99 n = false from decide_eq_false (fun qq => Int32.not_lt.mpr qq.1 c_2)]; exact ⟨rfl, rfl, rfl, rfl⟩)
    · refine hv_iconst (v := 1) dX11_isByHand_11 (by decide) ?_
      refine hv_goto (tgt := 16) dX11_isByHand_12 (by decide) ?_
      refine hv_zret dX11_isByHand_16 rfl (by first | exact Or.inl rfl | exact Or.inr rfl | assumption) ?_
      first
        | (rw [show inI 1 99 n = true from decide_eq_true ⟨Int32.not_lt.mp c_2, Int32.not_lt.mp c_8⟩]; exact ⟨rfl, rfl, rfl, rfl⟩)
        | (rw [show inI 1 99 n = false from decide_eq_false (fun qq => Int32.not_lt.mpr qq.2 c_8)]; exact ⟨rfl, rfl, rfl, rfl⟩)
        | (rw [show inI 1 99 n = false from decide_eq_false (fun qq => Int32.not_lt.mpr qq.1 c_2)]; exact ⟨rfl, rfl, rfl, rfl⟩)
theorem c_isSpan {n : Int32} {r : hR} : hCal G (m_X11_isSpan (hEq (some (.int (bI (inI 0 60 n)))) r σ τ)) [.ref (hgA G 0), .int n] shp r σ τ := by
  refine hv_enter pn_X11 rfl ?_
  refine hv_iload_n dX11_isSpan_0 rfl ?_
  refine hv_if_lt (tgt := 14) dX11_isSpan_1 (by decide) (fun c_1 => ?_) (fun c_1 => ?_)
  · refine hv_iconst (v := 0) dX11_isSpan_14 (by decide) ?_
    refine hv_zret dX11_isSpan_15 rfl (by first | exact Or.inl rfl | exact Or.inr rfl | assumption) ?_
    first
      | (rw [show inI 0 60 n = true from decide_eq_true ⟨Int32.not_lt.mp c_1, Int32.not_lt.mp c_7⟩]; exact ⟨rfl, rfl, rfl, rfl⟩)
      | (rw [show inI 0 60 n = false from decide_eq_false (fun qq => Int32.not_lt.mpr qq.2 c_7)]; exact ⟨rfl, rfl, rfl, rfl⟩)
      | (rw [show inI 0 60 n = false from decide_eq_false (fun qq => Int32.not_lt.mpr qq.1 c_1)]; exact ⟨rfl, rfl, rfl, rfl⟩)
  · refine hv_iload_n dX11_isSpan_4 rfl ?_
    refine hv_bipush (v := 60) dX11_isSpan_5 (by decide) ?_
    refine hv_icmp_gt (tgt := 14) dX11_isSpan_7 (by decide) (fun c_7 => ?_) (fun c_7 => ?_)
    · refine hv_iconst (v := 0) dX11_isSpan_14 (by decide) ?_
      refine hv_zret dX11_isSpan_15 rfl (by first | exact Or.inl rfl | exact Or.inr rfl | assumption) ?_
      first
        | (rw [show inI 0 60 n = true from decide_eq_true ⟨Int32.not_lt.mp c_1, Int32.not_lt.mp c_7⟩]; exact ⟨rfl, rfl, rfl, rfl⟩)
        | (rw [show inI 0 60 n = false from decide_eq_false (fun qq => Int32.not_lt.mpr qq.2 c_7)]; exact ⟨rfl, rfl, rfl, rfl⟩)
        | (rw [show inI 0 60 n = false from decide_eq_false (fun qq => Int32.not_lt.mpr qq.1 c_1)]; exact ⟨rfl, rfl, rfl, rfl⟩)
    · refine hv_iconst (v := 1) dX11_isSpan_10 (by decide) ?_
      refine hv_goto (tgt := 15) dX11_isSpan_11 (by decide) ?_
      refine hv_zret dX11_isSpan_15 rfl (by first | exact Or.inl rfl | exact Or.inr rfl | assumption) ?_
      first
        | (rw [show inI 0 60 n = true from decide_eq_true ⟨Int32.not_lt.mp c_1, Int32.not_lt.mp c_7⟩]; exact ⟨rfl, rfl, rfl, rfl⟩)
        | (rw [show inI 0 60 n = false from decide_eq_false (fun qq => Int32.not_lt.mpr qq.2 c_7)]; exact ⟨rfl, rfl, rfl, rfl⟩)
        | (rw [show inI 0 60 n = false from decide_eq_false (fun qq => Int32.not_lt.mpr qq.1 c_1)]; exact ⟨rfl, rfl, rfl, rfl⟩)
theorem c_isLook {n : Int32} {r : hR} : hCal G (m_X11_isLook (hEq (some (.int (bI (inI 0 24 n)))) r σ τ)) [.ref (hgA G 0), .int n] shp r σ τ := by
  refine hv_enter pn_X11 rfl ?_
  refine hv_iload_n dX11_isLook_0 rfl ?_
  refine hv_if_lt (tgt := 14) dX11_isLook_1 (by decide) (fun c_1 => ?_) (fun c_1 => ?_)
  · refine hv_iconst (v := 0) dX11_isLook_14 (by decide) ?_
    refine hv_zret dX11_isLook_15 rfl (by first | exact Or.inl rfl | exact Or.inr rfl | assumption) ?_
    first
      | (rw [show inI 0 24 n = true from decide_eq_true ⟨Int32.not_lt.mp c_1, Int32.not_lt.mp c_7⟩]; exact ⟨rfl, rfl, rfl, rfl⟩)
      | (rw [show inI 0 24 n = false from decide_eq_false (fun qq => Int32.not_lt.mpr qq.2 c_7)]; exact ⟨rfl, rfl, rfl, rfl⟩)
      | (rw [show inI 0 24 n = false from decide_eq_false (fun qq => Int32.not_lt.mpr qq.1 c_1)]; exact ⟨rfl, rfl, rfl, rfl⟩)
  · refine hv_iload_n dX11_isLook_4 rfl ?_
    refine hv_bipush (v := 24) dX11_isLook_5 (by decide) ?_
    refine hv_icmp_gt (tgt := 14) dX11_isLook_7 (by decide) (fun c_7 => ?_) (fun c_7 => ?_)
    · refine hv_iconst (v := 0) dX11_isLook_14 (by decide) ?_
      refine hv_zret dX11_isLook_15 rfl (by first | exact Or.inl rfl | exact Or.inr rfl | assumption) ?_
      first
        | (rw [show inI 0 24 n = true from decide_eq_true ⟨Int32.not_lt.mp c_1, Int32.not_lt.mp c_7⟩]; exact ⟨rfl, rfl, rfl, rfl⟩)
        | (rw [show inI 0 24 n = false from decide_eq_false (fun qq => Int32.not_lt.mpr qq.2 c_7)]; exact ⟨rfl, rfl, rfl, rfl⟩)
        | (rw [show inI 0 24 n = false from decide_eq_false (fun qq => Int32.not_lt.mpr qq.1 c_1)]; exact ⟨rfl, rfl, rfl, rfl⟩)
    · refine hv_iconst (v := 1) dX11_isLook_10 (by decide) ?_
      refine hv_goto (tgt := 15) dX11_isLook_11 (by decide) ?_
      refine hv_zret dX11_isLook_15 rfl (by first | exact Or.inl rfl | exact Or.inr rfl | assumption) ?_
      first
        | (rw [show inI 0 24 n = true from decide_eq_true ⟨Int32.not_lt.mp c_1, Int32.not_lt.mp c_7⟩]; exact ⟨rfl, rfl, rfl, rfl⟩)
        | (rw [show inI 0 24 n = false from decide_eq_false (fun qq => Int32.not_lt.mpr qq.2 c_7)]; exact ⟨rfl, rfl, rfl, rfl⟩)
        | (rw [show inI 0 24 n = false from decide_eq_false (fun qq => Int32.not_lt.mpr qq.1 c_1)]; exact ⟨rfl, rfl, rfl, rfl⟩)
theorem c_isFS {n : Int32} {r : hR} : hCal G (m_X11_isFirstOrSecond (hEq (some (.int (bI (decide (n = 0 ∨ n = 1))))) r σ τ)) [.ref (hgA G 0), .int n] shp r σ τ := by
  refine hv_enter pn_X11 rfl ?_
  refine hv_iload_n dX11_isFirstOrSecond_0 rfl ?_
  refine hv_if_eq (tgt := 9) dX11_isFirstOrSecond_1 (by decide) (fun c_1 => ?_) (fun c_1 => ?_)
  · refine hv_iconst (v := 1) dX11_isFirstOrSecond_9 (by decide) ?_
    refine hv_goto (tgt := 14) dX11_isFirstOrSecond_10 (by decide) ?_
    refine hv_zret dX11_isFirstOrSecond_14 rfl (by first | exact Or.inl rfl | exact Or.inr rfl | assumption) ?_
    first
      | (rw [decide_eq_true (Or.inl c_1)]; exact ⟨rfl, rfl, rfl, rfl⟩)
      | (rw [decide_eq_true (Or.inr c_6)]; exact ⟨rfl, rfl, rfl, rfl⟩)
      | (rw [decide_eq_false (fun qq => qq.elim c_1 c_6)]; exact ⟨rfl, rfl, rfl, rfl⟩)
  · refine hv_iload_n dX11_isFirstOrSecond_4 rfl ?_
    refine hv_iconst (v := 1) dX11_isFirstOrSecond_5 (by decide) ?_
    refine hv_icmp_ne (tgt := 13) dX11_isFirstOrSecond_6 (by decide) (fun c_6 => ?_) (fun c_6 => ?_)
    · refine hv_iconst (v := 0) dX11_isFirstOrSecond_13 (by decide) ?_
      refine hv_zret dX11_isFirstOrSecond_14 rfl (by first | exact Or.inl rfl | exact Or.inr rfl | assumption) ?_
      first
        | (rw [decide_eq_true (Or.inl c_1)]; exact ⟨rfl, rfl, rfl, rfl⟩)
        | (rw [decide_eq_true (Or.inr c_6)]; exact ⟨rfl, rfl, rfl, rfl⟩)
        | (rw [decide_eq_false (fun qq => qq.elim c_1 c_6)]; exact ⟨rfl, rfl, rfl, rfl⟩)
    · refine hv_iconst (v := 1) dX11_isFirstOrSecond_9 (by decide) ?_
      refine hv_goto (tgt := 14) dX11_isFirstOrSecond_10 (by decide) ?_
      refine hv_zret dX11_isFirstOrSecond_14 rfl (by first | exact Or.inl rfl | exact Or.inr rfl | assumption) ?_
      first
        | (rw [decide_eq_true (Or.inl c_1)]; exact ⟨rfl, rfl, rfl, rfl⟩)
        | (rw [decide_eq_true (Or.inr c_6)]; exact ⟨rfl, rfl, rfl, rfl⟩)
        | (rw [decide_eq_false (fun qq => qq.elim c_1 c_6)]; exact ⟨rfl, rfl, rfl, rfl⟩)
theorem c_panic {h : Nat} {a : Int32} {hd fe : Nat → Nat} (ok : okP σ h hd fe) : hCal G (m_X11_panic (hEq (some (.int (hsel h a (-1) (fun i => nI (fEat hd fe h 0 i))))) (rr 38 51 x y) σ τ)) [.ref (hgA G 0), .int a] shp (rr 38 51 x y) σ τ := by
  have k2 := ok.2.1
  refine hv_enter pn_X11 rfl ?_
  refine hv_aload_n dX11_panic_0 rfl ?_
  refine hv_iload_n dX11_panic_1 rfl ?_
  refine hv_cv1 (c_isHouse ok.1) dX11_panic_2 ml_X11_141 mk_X11_isHouse (by first | rfl | assumption) rfl rfl rfl rfl rfl ?_
  rintro _ _ _ _ ⟨rfl, rfl, rfl, rfl⟩
  refine hv_if_eq (tgt := 24) dX11_panic_5 (by decide) (fun c_5 => ?_) (fun c_5 => ?_)
  · rw [hsel_no (bI_0 c_5)]
    refine hv_iconst (v := -1) dX11_panic_24 (by decide) ?_
    refine hv_iret dX11_panic_25 rfl ?_
    exact ⟨rfl, rfl, rfl, rfl⟩
  · obtain ⟨i, hi, rfl⟩ := isH_ix k2 (bI_1 c_5)
    rw [hsel_yes hi k2]
    refine hv_aload_n dX11_panic_8 rfl ?_
    refine hv_getr dX11_panic_9 fl_X11_74 (by first | rfl | assumption) rfl (by first | rfl | assumption) ?_
    refine hv_aload_n dX11_panic_12 rfl ?_
    refine hv_getr dX11_panic_13 fl_X11_81 (by first | rfl | assumption) rfl (by first | rfl | assumption) ?_
    refine hv_iload_n dX11_panic_16 rfl ?_
    refine hv_iconst (v := 0) dX11_panic_17 (by decide) ?_
    refine hv_cv3 (c_eaters (cm := 0) ok (by omega) (by decide)) dX11_panic_18 ml_X11_234 mk_X3_eaters (by first | rfl | assumption) rfl rfl rfl rfl rfl ?_
    rintro _ _ _ _ ⟨rfl, rfl, rfl, rfl⟩
    refine hv_goto (tgt := 25) dX11_panic_21 (by decide) ?_
    refine hv_iret dX11_panic_25 rfl ?_
    exact ⟨rfl, rfl, rfl, rfl⟩
theorem c_quiet {h : Nat} {a : Int32} {hd fe : Nat → Nat} (ok : okP σ h hd fe) : hCal G (m_X11_quiet (hEq (some (.int (hsel h a (-1) (fun i => nI (fQui (fun b => fEat hd fe h 0 b) i h))))) (rr 38 51 x y) σ τ)) [.ref (hgA G 0), .int a] shp (rr 38 51 x y) σ τ := by
  have k2 := ok.2.1
  refine hv_enter pn_X11 rfl ?_
  refine hv_aload_n dX11_quiet_0 rfl ?_
  refine hv_iload_n dX11_quiet_1 rfl ?_
  refine hv_cv1 (c_isHouse ok.1) dX11_quiet_2 ml_X11_141 mk_X11_isHouse (by first | rfl | assumption) rfl rfl rfl rfl rfl ?_
  rintro _ _ _ _ ⟨rfl, rfl, rfl, rfl⟩
  refine hv_if_eq (tgt := 23) dX11_quiet_5 (by decide) (fun c_5 => ?_) (fun c_5 => ?_)
  · rw [hsel_no (bI_0 c_5)]
    refine hv_iconst (v := -1) dX11_quiet_23 (by decide) ?_
    refine hv_iret dX11_quiet_24 rfl ?_
    exact ⟨rfl, rfl, rfl, rfl⟩
  · obtain ⟨i, hi, rfl⟩ := isH_ix k2 (bI_1 c_5)
    rw [hsel_yes hi k2]
    refine hv_aload_n dX11_quiet_8 rfl ?_
    refine hv_getr dX11_quiet_9 fl_X11_74 (by first | rfl | assumption) rfl (by first | rfl | assumption) ?_
    refine hv_aload_n dX11_quiet_12 rfl ?_
    refine hv_getr dX11_quiet_13 fl_X11_81 (by first | rfl | assumption) rfl (by first | rfl | assumption) ?_
    refine hv_iload_n dX11_quiet_16 rfl ?_
    refine hv_cv2 (c_quietFor ok (by omega)) dX11_quiet_17 ml_X11_330 mk_X3_quietFor (by first | rfl | assumption) rfl rfl rfl rfl rfl ?_
    rintro _ _ _ _ ⟨rfl, rfl, rfl, rfl⟩
    refine hv_goto (tgt := 24) dX11_quiet_20 (by decide) ?_
    refine hv_iret dX11_quiet_24 rfl ?_
    exact ⟨rfl, rfl, rfl, rfl⟩
/-- SPARK -/
def fSpark (e : Nat → Nat) (h : Nat) (w : Int32) : Int32 := if ¬ (w = 0 ∨ w = 1) then -1 else if h = 0 then -2 else if w = 0 then nI (fWid (fun i => pop7 (e i)) h).1 else nI (pop7 (e (fWid (fun i => pop7 (e i)) h).1))
theorem fWid_lt (f : Nat → Nat) : ∀ n, 1 ≤ n → (fWid f n).1 < n
  | 0, hq => absurd hq (by omega)
  | n + 1, _ => by
    unfold fWid
    split
    · simp
    · by_cases hz : n = 0
      · subst hz; simp [fWid]
      · have := fWid_lt f n (by omega); omega
theorem c_spark {h : Nat} {w : Int32} {hd fe : Nat → Nat} (ok : okP σ h hd fe) : hCal G (m_X11_spark (hEq (some (.int (fSpark (fun i => fEat hd fe h 0 i) h w))) (rr 38 51 x y) σ τ)) [.ref (hgA G 0), .int w] shp (rr 38 51 x y) σ τ := by
  have k2 := ok.2.1
  refine hv_enter pn_X11 rfl ?_
  unfold fSpark
  refine hv_aload_n dX11_spark_0 rfl ?_
  refine hv_iload_n dX11_spark_1 rfl ?_
  refine hv_cv1 (c_isFS) dX11_spark_2 ml_X11_238 mk_X11_isFirstOrSecond (by first | rfl | assumption) rfl rfl rfl rfl rfl ?_
  rintro _ _ _ _ ⟨rfl, rfl, rfl, rfl⟩
  refine hv_if_ne (tgt := 10) dX11_spark_5 (by decide) (fun c_5 => ?_) (fun c_5 => ?_)
  · rw [if_neg (fun qq => qq (of_decide_eq_true (bI_1 c_5)))]
    refine hv_aload_n dX11_spark_10 rfl ?_
    refine hv_getr dX11_spark_11 fl_X11_81 (by first | rfl | assumption) rfl (by first | rfl | assumption) ?_
    refine hv_geti dX11_spark_14 fl_X11_241 (by first | rfl | assumption) rfl ?_
    rw [ok.1]
    refine hv_if_ne (tgt := 23) dX11_spark_17 (by decide) (fun c_17 => ?_) (fun c_17 => ?_)
    · have hh0 : ¬ h = 0 := fun qq => c_17 (by rw [qq]; rfl)
      rw [if_neg hh0]
      refine hv_aload_n dX11_spark_23 rfl ?_
      refine hv_getr dX11_spark_24 fl_X11_74 (by first | rfl | assumption) rfl (by first | rfl | assumption) ?_
      refine hv_aload_n dX11_spark_27 rfl ?_
      refine hv_getr dX11_spark_28 fl_X11_81 (by first | rfl | assumption) rfl (by first | rfl | assumption) ?_
      refine hv_cv1 (c_widest ok) dX11_spark_31 ml_X11_244 mk_X3_widest (by first | rfl | assumption) rfl rfl rfl rfl rfl ?_
      rintro _ _ _ _ ⟨rfl, rfl, rfl, rfl⟩
      refine hv_istore_n dX11_spark_34 rfl rfl ?_
      refine hv_iload_n dX11_spark_35 rfl ?_
      refine hv_if_ne (tgt := 43) dX11_spark_36 (by decide) (fun c_36 => ?_) (fun c_36 => ?_)
      · rw [if_neg c_36]
        have hwl := fWid_lt (fun i => pop7 (fEat hd fe h 0 i)) h (by omega)
        refine hv_aload_n dX11_spark_43 rfl ?_
        refine hv_getr dX11_spark_44 fl_X11_74 (by first | rfl | assumption) rfl (by first | rfl | assumption) ?_
        refine hv_aload_n dX11_spark_47 rfl ?_
        refine hv_getr dX11_spark_48 fl_X11_81 (by first | rfl | assumption) rfl (by first | rfl | assumption) ?_
        refine hv_iload_n dX11_spark_51 rfl ?_
        refine hv_iconst (v := 0) dX11_spark_52 (by decide) ?_
        refine hv_cv3 (c_eaters (cm := 0) ok (by omega) (by decide)) dX11_spark_53 ml_X11_234 mk_X3_eaters (by first | rfl | assumption) rfl rfl rfl rfl rfl ?_
        rintro _ _ _ _ ⟨rfl, rfl, rfl, rfl⟩
        refine hv_cs1 (c_bitCount (fEat_lt (by omega) k2)) dX11_spark_56 ml_X11_248 mk_J6_bitCount_0f7a4 rfl rfl rfl ?_
        rintro _ _ _ _ ⟨rfl, rfl, rfl, rfl⟩
        refine hv_iret dX11_spark_59 rfl ?_
        exact ⟨rfl, rfl, rfl, rfl⟩
      · rw [if_pos c_36]
        refine hv_iload_n dX11_spark_39 rfl ?_
        refine hv_goto (tgt := 59) dX11_spark_40 (by decide) ?_
        refine hv_iret dX11_spark_59 rfl ?_
        exact ⟨rfl, rfl, rfl, rfl⟩
    · rw [if_pos ((nI_eq (b := 0) (by omega) (by decide)).mp c_17)]
      refine hv_bipush (v := -2) dX11_spark_20 (by decide) ?_
      refine hv_iret dX11_spark_22 rfl ?_
      exact ⟨rfl, rfl, rfl, rfl⟩
  · rw [if_pos (of_decide_eq_false (bI_0 c_5))]
    refine hv_iconst (v := -1) dX11_spark_8 (by decide) ?_
    refine hv_iret dX11_spark_9 rfl ?_
    exact ⟨rfl, rfl, rfl, rfl⟩
def fCalmA (e : Nat → Nat → Nat) (h : Nat) (a o i : Int32) : Int32 :=
  if isH h a = true ∧ isH h o = true ∧ ¬ a = o ∧ inI (-1) 2 i = true then
    match fClm (e a.toNatClampNeg) (2 ^ a.toNatClampNeg ||| 2 ^ o.toNatClampNeg) o.toNatClampNeg (2 ^ h) with
    | none => -2
    | some m => if i = -1 then nI (pop7 m) else fMem m i 7 0 0
  else -1
theorem c_calm {h : Nat} {a o i : Int32} {hd fe : Nat → Nat} (ok : okP σ h hd fe) : hCal G (m_X11_calm (hEq (some (.int (fCalmA (fun b cm => fEat hd fe h cm b) h a o i))) (rr 38 51 x y) σ τ)) [.ref (hgA G 0), .int a, .int o, .int i] shp (rr 38 51 x y) σ τ := by
  have k2 := ok.2.1
  have hp : 2 ^ h ≤ 128 := show 2 ^ h ≤ 2 ^ 7 from Nat.pow_le_pow_right (by decide) k2
  refine hv_enter pn_X11 rfl ?_
  unfold fCalmA
  refine hv_aload_n dX11_calm_0 rfl ?_
  refine hv_iload_n dX11_calm_1 rfl ?_
  refine hv_cv1 (c_isHouse ok.1) dX11_calm_2 ml_X11_141 mk_X11_isHouse (by first | rfl | assumption) rfl rfl rfl rfl rfl ?_
  rintro _ _ _ _ ⟨rfl, rfl, rfl, rfl⟩
  refine hv_if_eq (tgt := 31) dX11_calm_5 (by decide) (fun c_5 => ?_) (fun c_5 => ?_)
  · rw [if_neg (fun qq => by rw [bI_0 c_5] at qq; exact absurd qq.1 (by decide))]
    refine hv_iconst (v := -1) dX11_calm_31 (by decide) ?_
    refine hv_iret dX11_calm_32 rfl ?_
    exact ⟨rfl, rfl, rfl, rfl⟩
  · refine hv_aload_n dX11_calm_8 rfl ?_
    refine hv_iload_n dX11_calm_9 rfl ?_
    refine hv_cv1 (c_isHouse ok.1) dX11_calm_10 ml_X11_141 mk_X11_isHouse (by first | rfl | assumption) rfl rfl rfl rfl rfl ?_
    rintro _ _ _ _ ⟨rfl, rfl, rfl, rfl⟩
    refine hv_if_eq (tgt := 31) dX11_calm_13 (by decide) (fun c_13 => ?_) (fun c_13 => ?_)
    · rw [if_neg (fun qq => by rw [bI_0 c_13] at qq; exact absurd qq.2.1 (by decide))]
      refine hv_iconst (v := -1) dX11_calm_31 (by decide) ?_
      refine hv_iret dX11_calm_32 rfl ?_
      exact ⟨rfl, rfl, rfl, rfl⟩
    · refine hv_iload_n dX11_calm_16 rfl ?_
      refine hv_iload_n dX11_calm_17 rfl ?_
      refine hv_icmp_eq (tgt := 31) dX11_calm_18 (by decide) (fun c_18 => ?_) (fun c_18 => ?_)
      · rw [if_neg (fun qq => qq.2.2.1 c_18)]
        refine hv_iconst (v := -1) dX11_calm_31 (by decide) ?_
        refine hv_iret dX11_calm_32 rfl ?_
        exact ⟨rfl, rfl, rfl, rfl⟩
      · refine hv_iload_n dX11_calm_21 rfl ?_
        refine hv_iconst (v := -1) dX11_calm_22 (by decide) ?_
        refine hv_icmp_lt (tgt := 31) dX11_calm_23 (by decide) (fun c_23 => ?_) (fun c_23 => ?_)
        · rw [if_neg (fun qq => Int32.not_lt.mpr (of_decide_eq_true qq.2.2.2).1 c_23)]
          refine hv_iconst (v := -1) dX11_calm_31 (by decide) ?_
          refine hv_iret dX11_calm_32 rfl ?_
          exact ⟨rfl, rfl, rfl, rfl⟩
        · refine hv_iload_n dX11_calm_26 rfl ?_
          refine hv_iconst (v := 2) dX11_calm_27 (by decide) ?_
          refine hv_icmp_le (tgt := 33) dX11_calm_28 (by decide) (fun c_28 => ?_) (fun c_28 => ?_)
          · rw [if_pos ⟨bI_1 c_5, bI_1 c_13, c_18, decide_eq_true ⟨Int32.not_lt.mp c_23, c_28⟩⟩]
            obtain ⟨ia, hia, rfl⟩ := isH_ix k2 (bI_1 c_5)
            obtain ⟨io, hio, rfl⟩ := isH_ix k2 (bI_1 c_13)
            rw [nI_clamp (by omega), nI_clamp (by omega)]
            obtain ⟨cq, hcq⟩ : ∃ cq, fClm (fun cm => fEat hd fe h cm ia) (2 ^ ia ||| 2 ^ io) io (2 ^ h) = cq := ⟨_, rfl⟩
            refine hv_aload_n dX11_calm_33 rfl ?_
            refine hv_getr dX11_calm_34 fl_X11_74 (by first | rfl | assumption) rfl (by first | rfl | assumption) ?_
            refine hv_aload_n dX11_calm_37 rfl ?_
            refine hv_getr dX11_calm_38 fl_X11_81 (by first | rfl | assumption) rfl (by first | rfl | assumption) ?_
            refine hv_iload_n dX11_calm_41 rfl ?_
            refine hv_iload_n dX11_calm_42 rfl ?_
            refine hv_cv3 (c_fewestCalmed ok (by omega) (by omega)) dX11_calm_43 ml_X11_253 mk_X3_fewestCalmed (by first | rfl | assumption) rfl rfl rfl rfl rfl ?_
            rintro _ _ _ _ ⟨rfl, rfl, rfl, rfl⟩
            rw [hcq]
            refine hv_istore dX11_calm_46 rfl rfl ?_
            refine hv_iload dX11_calm_48 rfl ?_
            refine hv_bipush (v := -2) dX11_calm_50 (by decide) ?_
            refine hv_icmp_ne (tgt := 58) dX11_calm_52 (by decide) (fun c_52 => ?_) (fun c_52 => ?_)
            · obtain ⟨m, rfl⟩ : ∃ m, cq = some m := by
                cases cq with
                | none => exact absurd rfl c_52
                | some m => exact ⟨m, rfl⟩
              have hlm := fClm_lt _ _ _ _ _ hcq
              refine hv_iload_n dX11_calm_58 rfl ?_
              refine hv_iconst (v := -1) dX11_calm_59 (by decide) ?_
              refine hv_icmp_ne (tgt := 71) dX11_calm_60 (by decide) (fun c_60 => ?_) (fun c_60 => ?_)
              · refine hv_aload_n dX11_calm_71 rfl ?_
                refine hv_getr dX11_calm_72 fl_X11_74 (by first | rfl | assumption) rfl (by first | rfl | assumption) ?_
                refine hv_iload dX11_calm_75 rfl ?_
                refine hv_iload_n dX11_calm_77 rfl ?_
                refine hv_cv2 (c_member (m := m) (by omega)) dX11_calm_78 ml_X11_256 mk_X3_member (by first | rfl | assumption) rfl rfl rfl rfl rfl ?_
                rintro _ _ _ _ ⟨rfl, rfl, rfl, rfl⟩
                refine hv_iret dX11_calm_81 rfl ?_
                first
                  | (refine ⟨congrArg (fun z => some (Value.int z)) (if_pos c_60), rfl, rfl, rfl⟩)
                  | (refine ⟨congrArg (fun z => some (Value.int z)) (if_neg c_60), rfl, rfl, rfl⟩)
              · refine hv_iload dX11_calm_63 rfl ?_
                refine hv_cs1 (c_bitCount (m := m) (by omega)) dX11_calm_65 ml_X11_248 mk_J6_bitCount_0f7a4 rfl rfl rfl ?_
                rintro _ _ _ _ ⟨rfl, rfl, rfl, rfl⟩
                refine hv_goto (tgt := 81) dX11_calm_68 (by decide) ?_
                refine hv_iret dX11_calm_81 rfl ?_
                first
                  | (refine ⟨congrArg (fun z => some (Value.int z)) (if_pos c_60), rfl, rfl, rfl⟩)
                  | (refine ⟨congrArg (fun z => some (Value.int z)) (if_neg c_60), rfl, rfl, rfl⟩)
            · have hcn : cq = none := by
                cases cq with
                | none => rfl
                | some m =>
                  have hlm := fClm_lt _ _ _ _ _ hcq
                  have hq2 : nI m = -2 := c_52
                  exact absurd (show nI m < 0 by rw [hq2]; decide) (nI_pos (by omega))
              subst hcn
              refine hv_bipush (v := -2) dX11_calm_55 (by decide) ?_
              refine hv_iret dX11_calm_57 rfl ?_
              exact ⟨rfl, rfl, rfl, rfl⟩
          · rw [if_neg (fun qq => c_28 (of_decide_eq_true qq.2.2.2).2)]
            refine hv_iconst (v := -1) dX11_calm_31 (by decide) ?_
            refine hv_iret dX11_calm_32 rfl ?_
            exact ⟨rfl, rfl, rfl, rfl⟩
theorem c_forget : hCal G (m_X11_forget (hQp [35] (some (.int (σ 35 2))) (rr 38 51 x y) σ τ (fun σ' => σ' 35 2 = 0))) [.ref (hgA G 0)] shp (rr 38 51 x y) σ τ := by
  refine hv_enter pn_X11 rfl ?_
  refine hv_aload_n dX11_forget_0 rfl ?_
  refine hv_getr dX11_forget_1 fl_X11_74 (by first | rfl | assumption) rfl (by first | rfl | assumption) ?_
  refine hv_geti dX11_forget_4 fl_X11_341 (by first | rfl | assumption) rfl ?_
  refine hv_istore_n dX11_forget_7 rfl rfl ?_
  refine hv_aload_n dX11_forget_8 rfl ?_
  refine hv_getr dX11_forget_9 fl_X11_74 (by first | rfl | assumption) rfl (by first | rfl | assumption) ?_
  refine hv_iconst (v := 0) dX11_forget_12 (by decide) ?_
  refine hv_puti dX11_forget_13 fl_X11_341 (by first | rfl | assumption) rfl rfl rfl ?_
  refine hv_iload_n dX11_forget_16 rfl ?_
  refine hv_iret dX11_forget_17 rfl ?_
  refine ⟨rfl, rfl, rfl, off_up (fun _ _ => rfl) (by decide), ?_⟩
  show va_up σ 35 (upd (σ 35) 2 0) 35 2 = 0
  rw [hup_eq, pk_us]
end S24

