abbrev m_X7_sign (Q : hPo) : hMe := (hrm 0, 0, 0, yX7_sign, cX7_sign, 2, (some FieldType.int), shp, none, Q)
abbrev m_X9_isBlank (Q : hPo) : hMe := (hrm 0, 0, 0, yX9_isBlank, cX9_isBlank, 1, (some FieldType.boolean), shp, none, Q)
abbrev m_X9_isLetter (Q : hPo) : hMe := (hrm 0, 0, 0, yX9_isLetter, cX9_isLetter, 1, (some FieldType.boolean), shp, none, Q)
abbrev m_X9_isDigit (Q : hPo) : hMe := (hrm 0, 0, 0, yX9_isDigit, cX9_isDigit, 1, (some FieldType.boolean), shp, none, Q)
abbrev m_X9_skipBlanks (Q : hPo) : hMe := (hrm 1, 0, 0, yX9_skipBlanks, cX9_skipBlanks, 2, (none : Option FieldType), shp, none, Q)
abbrev m_X9_letters (Q : hPo) : hMe := (hrm 1, 0, 0, yX9_letters, cX9_letters, 3, (some FieldType.int), shp, none, Q)
abbrev m_X9_digits (Q : hPo) : hMe := (hrm 1, 0, 0, yX9_digits, cX9_digits, 3, (some FieldType.int), shp, none, Q)
abbrev m_X9_number (Q : hPo) : hMe := (hrm 1, 0, 0, yX9_number, cX9_number, 4, (some FieldType.int), shp, none, Q)
abbrev m_X9_isWord (Q : hPo) : hMe := (hrm 5, 0, 0, yX9_isWord, cX9_isWord, 6, (some FieldType.boolean), shp, none, Q)
abbrev m_X9_wordOrName (Q : hPo) : hMe := (hrm 6, 0, 0, yX9_wordOrName, cX9_wordOrName, 3, (some FieldType.int), shp, none, Q)
abbrev m_X9_put (Q : hPo) : hMe := (hrm 0, 0, 0, yX9_put, cX9_put, 3, (none : Option FieldType), shp, none, Q)
abbrev m_X9_scanOne (Q : hPo) : hMe := (hrm 7, 0, 0, yX9_scanOne, cX9_scanOne, 6, (some FieldType.boolean), shp, none, Q)
abbrev m_X9_scan (Q : hPo) : hMe := (hrm 8, 0, 0, yX9_scan, cX9_scan, 3, (none : Option FieldType), shp, none, Q)
abbrev m_X9_kind (Q : hPo) : hMe := (hrm 0, 0, 0, yX9_kind, cX9_kind, 2, (some FieldType.int), shp, none, Q)
abbrev m_X9_placeOf (Q : hPo) : hMe := (hrm 0, 0, 0, yX9_placeOf, cX9_placeOf, 2, (some FieldType.int), shp, none, Q)
abbrev m_X9_value (Q : hPo) : hMe := (hrm 0, 0, 0, yX9_value, cX9_value, 2, (some FieldType.int), shp, none, Q)
abbrev m_X9_sameName (Q : hPo) : hMe := (hrm 1, 0, 0, yX9_sameName, cX9_sameName, 6, (some FieldType.boolean), shp, none, Q)
def sgI (f : hF) (n p : Nat) : Int32 := if p < n then nI (bN f p) else -1
def tb (S : Nat → Bool) (f : hF) (n p : Nat) : Bool := decide (p < n) && S (bN f p)
theorem tb_t {S : Nat → Bool} {f : hF} {n p : Nat} : tb S f n p = true ↔ (p < n ∧ S (bN f p) = true) := by
  unfold tb; rw [Bool.and_eq_true, decide_eq_true_iff]
theorem in_tb {lo hi : Nat} {S : Nat → Bool} {f : hF} {n p : Nat} (hS : ∀ b, S b = decide (lo ≤ b ∧ b ≤ hi)) (hlo : lo < 256) (hhi : hi < 256) : inI (nI lo) (nI hi) (sgI f n p) = tb S f n p := by
  have hb := bN_lt f p
  unfold tb sgI inI
  by_cases c : p < n
  · rw [if_pos c, decide_eq_true c, Bool.true_and, hS]
    apply decide_eq_decide.mpr
    rw [nI_leI (by omega) (by omega), nI_leI (by omega) (by omega)]
  · rw [if_neg c, decide_eq_false c, Bool.false_and]
    exact decide_eq_false (fun q => absurd (Int32.lt_of_le_of_lt q.1 (by decide : (-1 : Int32) < 0)) (nI_pos (by omega)))
theorem bl_tb {f : hF} {n p : Nat} : decide (sgI f n p = 9 ∨ sgI f n p = 10 ∨ sgI f n p = 13 ∨ sgI f n p = 32) = tb isBl f n p := by
  have hb := bN_lt f p
  unfold tb sgI
  by_cases c : p < n
  · rw [if_pos c, decide_eq_true c, Bool.true_and]
    apply decide_eq_decide.mpr
    exact or_congr (nI_eq (b := 9) (by omega) (by decide)) (or_congr (nI_eq (b := 10) (by omega) (by decide)) (or_congr (nI_eq (b := 13) (by omega) (by decide)) (nI_eq (b := 32) (by omega) (by decide))))
  · rw [if_neg c, decide_eq_false c, Bool.false_and]
    decide
theorem dgs_inj2 (f g : hF) (p q : Nat) : ∀ m k, (∀ i, i < m → isLt (bN f (p + i)) = true) → (∀ i, i < k → isLt (bN g (q + i)) = true) → dgs f p m = dgs g q k → m = k
  | 0, 0, _, _, _ => rfl
  | 0, k + 1, _, h2, e => by
    have h4 := of_decide_eq_true (h2 k (by omega))
    rw [dgs, dgs] at e; omega
  | m + 1, 0, h1, _, e => by
    have h3 := of_decide_eq_true (h1 m (by omega))
    rw [dgs, dgs] at e; omega
  | m + 1, k + 1, h1, h2, e => by
    have h3 := of_decide_eq_true (h1 m (by omega))
    have h4 := of_decide_eq_true (h2 k (by omega))
    rw [dgs, dgs] at e
    rw [dgs_inj2 f g p q m k (fun i hi => h1 i (by omega)) (fun i hi => h2 i (by omega)) (by omega)]
theorem wk_long {f : hF} {p m : Nat} (hm : ∀ i, i < m → isLt (bN f (p + i)) = true) (h6 : 6 < m) : wkF (dgs f p m) 23 = 23 := by
  refine wkF_no 23 (fun w hw e => ?_)
  have hl := wln_le w hw
  have hb : ∀ k, k < wln w → isLt (bN (wby (6 * w)) (0 + k)) = true := fun k hk => by rw [Nat.zero_add]; exact ((wch_let w hw k (by omega)).1 hk).1
  have := dgs_inj2 f (wby (6 * w)) p 0 m (wln w) hm hb e.symm
  omega
/-- the tokens of the class -/
def tokC (f : hF) (n : Nat) (σ : hS) : Prop := ∃ sz, sz ≤ 401 ∧ σ 3 5 = nI sz ∧ σ 3 4 = nI n ∧ (∀ i, i < sz → tq f n i < n ∧ σ 4 i = nI (tkd f n (tq f n i)) ∧ σ 5 i = nI (tq f n i) ∧ σ 6 i = nI (tvl f n (tq f n i))) ∧ (sz = 401 ∨ ¬ tq f n sz < n ∨ (1 ≤ sz ∧ tkd f n (tq f n (sz - 1)) = 26))
theorem tok_rel {f : hF} {n i sz : Nat} (hsz : sz ≤ 401) (h1 : ∀ i, i < sz → tq f n i < n) (h2 : sz = 401 ∨ ¬ tq f n sz < n ∨ (1 ≤ sz ∧ tkd f n (tq f n (sz - 1)) = 26)) (hr : rel f n i) : i < sz ∨ (i = sz ∧ ¬ tq f n i < n) := by
  by_cases c : i < sz
  · exact Or.inl c
  · right
    rcases h2 with e | e | ⟨e1, e2⟩
    · have := hr.1; omega
    · by_cases c2 : i = sz
      · subst c2; exact ⟨rfl, e⟩
      · exact absurd (kd_25.mpr e) (hr.2 sz (by omega)).1
    · have h3 := (hr.2 (sz - 1) (by omega)).2
      unfold kd at h3
      rw [if_pos (h1 (sz - 1) (by omega))] at h3
      exact absurd e2 h3
section S68
variable {G : hGl} {σ : hS} {τ : hT} {x y : Option Nat}
theorem c_sign {n p : Nat} {f : hF} (hf : σ 2 = f) (hn : σ 1 1 = nI n) (hn2 : n ≤ 2000) (hp : p < 2 ^ 30) : hCal G (m_X7_sign (hEq (some (.int (sgI f n p))) (rr 38 51 x y) σ τ)) [.ref (hgA G 1), .int (nI p)] shp (rr 38 51 x y) σ τ := by
  subst hf
  refine hv_enter pn_X7 rfl ?_
  by_cases c : p < n
  · rw [show sgI (σ 2) n p = nI (bN (σ 2) p) from if_pos c]
    refine hv_iload_n dX7_sign_0 rfl ?_
    refine hv_if_lt (tgt := 32) dX7_sign_1 (by decide) (fun c_1 => absurd c_1 ((nI_pos (by omega)))) (fun c_1 => ?_)
    refine hv_iload_n dX7_sign_4 rfl ?_
    refine hv_aload_n dX7_sign_5 rfl ?_
    refine hv_geti dX7_sign_6 fl_X7_15 (by first | rfl | assumption) rfl ?_
    refine hv_icmp_ge (tgt := 32) dX7_sign_9 (by decide) (fun c_9 => absurd c_9 ((by rw [hn]; exact nI_ge c (by omega)))) (fun c_9 => ?_)
    refine hv_iload_n dX7_sign_12 rfl ?_
    refine hv_sipush (v := 2000) dX7_sign_13 (by decide) ?_
    refine hv_icmp_ge (tgt := 32) dX7_sign_16 (by decide) (fun c_16 => absurd c_16 ((nI_ge (b := 2000) (by omega) (by decide)))) (fun c_16 => ?_)
    refine hv_aload_n dX7_sign_19 rfl ?_
    refine hv_getr dX7_sign_20 fl_X7_11 (by first | rfl | assumption) rfl (by first | rfl | assumption) ?_
    refine hv_iload_n dX7_sign_23 rfl ?_
    refine hv_bald dX7_sign_24 (by first | rfl | assumption) rfl (by first | assumption | omega) (by first | decide | assumption) ?_
    refine hv_sipush (v := 255) dX7_sign_25 (by decide) ?_
    refine hv_iand dX7_sign_28 ?_
    rw [bN_eq]
    refine hv_goto (tgt := 33) dX7_sign_29 (by decide) ?_
    refine hv_iret dX7_sign_33 rfl ?_
    exact ⟨rfl, rfl, rfl, rfl⟩
  · rw [show sgI (σ 2) n p = -1 from if_neg c]
    refine hv_iload_n dX7_sign_0 rfl ?_
    refine hv_if_lt (tgt := 32) dX7_sign_1 (by decide) (fun c_1 => absurd c_1 ((nI_pos (by omega)))) (fun c_1 => ?_)
    refine hv_iload_n dX7_sign_4 rfl ?_
    refine hv_aload_n dX7_sign_5 rfl ?_
    refine hv_geti dX7_sign_6 fl_X7_15 (by first | rfl | assumption) rfl ?_
    refine hv_icmp_ge (tgt := 32) dX7_sign_9 (by decide) (fun c_9 => ?_) (fun c_9 => absurd ((by rw [hn]; exact nI_le (by omega) (by omega))) c_9)
    refine hv_iconst (v := -1) dX7_sign_32 (by decide) ?_
    refine hv_iret dX7_sign_33 rfl ?_
    exact ⟨rfl, rfl, rfl, rfl⟩
theorem c_isBlank {v : Int32} {r : hR} : hCal G (m_X9_isBlank (hEq (some (.int (bI (decide (v = 9 ∨ v = 10 ∨ v = 13 ∨ v = 32))))) r σ τ)) [.int v] shp r σ τ := by
  refine hv_enter pn_X9 rfl ?_
  refine hv_iload_n dX9_isBlank_0 rfl ?_
  refine hv_bipush (v := 9) dX9_isBlank_1 (by decide) ?_
  refine hv_icmp_eq (tgt := 24) dX9_isBlank_3 (by decide) (fun c_3 => ?_) (fun c_3 => ?_)
  · refine hv_iconst (v := 1) dX9_isBlank_24 (by decide) ?_
    refine hv_goto (tgt := 29) dX9_isBlank_25 (by decide) ?_
    refine hv_zret dX9_isBlank_29 rfl (by first | exact Or.inl rfl | exact Or.inr rfl | assumption) ?_
    first
      | (rw [decide_eq_false (fun q => by rcases q with q | q | q | q; exact c_3 q; exact c_9 q; exact c_15 q; exact c_21 q)]; exact ⟨rfl, rfl, rfl, rfl⟩)
      | (rw [decide_eq_true (Or.inr (Or.inr (Or.inr c_21)))]; exact ⟨rfl, rfl, rfl, rfl⟩)
      | (rw [decide_eq_true (Or.inr (Or.inr (Or.inl c_15)))]; exact ⟨rfl, rfl, rfl, rfl⟩)
      | (rw [decide_eq_true (Or.inr (Or.inl c_9))]; exact ⟨rfl, rfl, rfl, rfl⟩)
      | (rw [decide_eq_true (Or.inl c_3)]; exact ⟨rfl, rfl, rfl, rfl⟩)
  · refine hv_iload_n dX9_isBlank_6 rfl ?_
    refine hv_bipush (v := 10) dX9_isBlank_7 (by decide) ?_
    refine hv_icmp_eq (tgt := 24) dX9_isBlank_9 (by decide) (fun c_9 => ?_) (fun c_9 => ?_)
    · refine hv_iconst (v := 1) dX9_isBlank_24 (by decide) ?_
      refine hv_goto (tgt := 29) dX9_isBlank_25 (by decide) ?_
      refine hv_zret dX9_isBlank_29 rfl (by first | exact Or.inl rfl | exact Or.inr rfl | assumption) ?_
      first
        | (rw [decide_eq_false (fun q => by rcases q with q | q | q | q; exact c_3 q; exact c_9 q; exact c_15 q; exact c_21 q)]; exact ⟨rfl, rfl, rfl, rfl⟩)
        | (rw [decide_eq_true (Or.inr (Or.inr (Or.inr c_21)))]; exact ⟨rfl, rfl, rfl, rfl⟩)
        | (rw [decide_eq_true (Or.inr (Or.inr (Or.inl c_15)))]; exact ⟨rfl, rfl, rfl, rfl⟩)
        | (rw [decide_eq_true (Or.inr (Or.inl c_9))]; exact ⟨rfl, rfl, rfl, rfl⟩)
        | (rw [decide_eq_true (Or.inl c_3)]; exact ⟨rfl, rfl, rfl, rfl⟩)
    · refine hv_iload_n dX9_isBlank_12 rfl ?_
      refine hv_bipush (v := 13) dX9_isBlank_13 (by decide) ?_
      refine hv_icmp_eq (tgt := 24) dX9_isBlank_15 (by decide) (fun c_15 => ?_) (fun c_15 => ?_)
      · refine hv_iconst (v := 1) dX9_isBlank_24 (by decide) ?_
        refine hv_goto (tgt := 29) dX9_isBlank_25 (by decide) ?_
        refine hv_zret dX9_isBlank_29 rfl (by first | exact Or.inl rfl | exact Or.inr rfl | assumption) ?_
        first
          | (rw [decide_eq_false (fun q => by rcases q with q | q | q | q; exact c_3 q; exact c_9 q; exact c_15 q; exact c_21 q)]; exact ⟨rfl, rfl, rfl, rfl⟩)
          | (rw [decide_eq_true (Or.inr (Or.inr (Or.inr c_21)))]; exact ⟨rfl, rfl, rfl, rfl⟩)
          | (rw [decide_eq_true (Or.inr (Or.inr (Or.inl c_15)))]; exact ⟨rfl, rfl, rfl, rfl⟩)
          | (rw [decide_eq_true (Or.inr (Or.inl c_9))]; exact ⟨rfl, rfl, rfl, rfl⟩)
          | (rw [decide_eq_true (Or.inl c_3)]; exact ⟨rfl, rfl, rfl, rfl⟩)
      · refine hv_iload_n dX9_isBlank_18 rfl ?_
        refine hv_bipush (v := 32) dX9_isBlank_19 (by decide) ?_
        refine hv_icmp_ne (tgt := 28) dX9_isBlank_21 (by decide) (fun c_21 => ?_) (fun c_21 => ?_)
        · refine hv_iconst (v := 0) dX9_isBlank_28 (by decide) ?_
          refine hv_zret dX9_isBlank_29 rfl (by first | exact Or.inl rfl | exact Or.inr rfl | assumption) ?_
          first
            | (rw [decide_eq_false (fun q => by rcases q with q | q | q | q; exact c_3 q; exact c_9 q; exact c_15 q; exact c_21 q)]; exact ⟨rfl, rfl, rfl, rfl⟩)
            | (rw [decide_eq_true (Or.inr (Or.inr (Or.inr c_21)))]; exact ⟨rfl, rfl, rfl, rfl⟩)
            | (rw [decide_eq_true (Or.inr (Or.inr (Or.inl c_15)))]; exact ⟨rfl, rfl, rfl, rfl⟩)
            | (rw [decide_eq_true (Or.inr (Or.inl c_9))]; exact ⟨rfl, rfl, rfl, rfl⟩)
            | (rw [decide_eq_true (Or.inl c_3)]; exact ⟨rfl, rfl, rfl, rfl⟩)
        · refine hv_iconst (v := 1) dX9_isBlank_24 (by decide) ?_
          refine hv_goto (tgt := 29) dX9_isBlank_25 (by decide) ?_
          refine hv_zret dX9_isBlank_29 rfl (by first | exact Or.inl rfl | exact Or.inr rfl | assumption) ?_
          first
            | (rw [decide_eq_false (fun q => by rcases q with q | q | q | q; exact c_3 q; exact c_9 q; exact c_15 q; exact c_21 q)]; exact ⟨rfl, rfl, rfl, rfl⟩)
            | (rw [decide_eq_true (Or.inr (Or.inr (Or.inr c_21)))]; exact ⟨rfl, rfl, rfl, rfl⟩)
            | (rw [decide_eq_true (Or.inr (Or.inr (Or.inl c_15)))]; exact ⟨rfl, rfl, rfl, rfl⟩)
            | (rw [decide_eq_true (Or.inr (Or.inl c_9))]; exact ⟨rfl, rfl, rfl, rfl⟩)
            | (rw [decide_eq_true (Or.inl c_3)]; exact ⟨rfl, rfl, rfl, rfl⟩)
theorem c_isLetter {v : Int32} {r : hR} : hCal G (m_X9_isLetter (hEq (some (.int (bI (inI 97 122 v)))) r σ τ)) [.int v] shp r σ τ := by
  refine hv_enter pn_X9 rfl ?_
  refine hv_iload_n dX9_isLetter_0 rfl ?_
  refine hv_bipush (v := 97) dX9_isLetter_1 (by decide) ?_
  refine hv_icmp_lt (tgt := 16) dX9_isLetter_3 (by decide) (fun c_3 => ?_) (fun c_3 => ?_)
  · refine hv_iconst (v := 0) dX9_isLetter_16 (by decide) ?_
    refine hv_zret dX9_isLetter_17 rfl (by first | exact Or.inl rfl | exact Or.inr rfl | assumption) ?_
    first
      | (rw [show inI 97 122 v = true from decide_eq_true ⟨Int32.not_lt.mp c_3, Int32.not_lt.mp c_9⟩]; exact ⟨rfl, rfl, rfl, rfl⟩)
      | (rw [show inI 97 122 v = false from decide_eq_false (fun q => Int32.not_lt.mpr q.2 c_9)]; exact ⟨rfl, rfl, rfl, rfl⟩)
      | (rw [show inI 97 122 v = false from decide_eq_false (fun q => Int32.not_lt.mpr q.1 c_3)]; exact ⟨rfl, rfl, rfl, rfl⟩)
  · refine hv_iload_n dX9_isLetter_6 rfl ?_
    refine hv_bipush (v := 122) dX9_isLetter_7 (by decide) ?_
    refine hv_icmp_gt (tgt := 16) dX9_isLetter_9 (by decide) (fun c_9 => ?_) (fun c_9 => ?_)
    · refine hv_iconst (v := 0) dX9_isLetter_16 (by decide) ?_
      refine hv_zret dX9_isLetter_17 rfl (by first | exact Or.inl rfl | exact Or.inr rfl | assumption) ?_
      first
        | (rw [show inI 97 122 v = true from decide_eq_true ⟨Int32.not_lt.mp c_3, Int32.not_lt.mp c_9⟩]; exact ⟨rfl, rfl, rfl, rfl⟩)
        | (rw [show inI 97 122 v = false from decide_eq_false (fun q => Int32.not_lt.mpr q.2 c_9)]; exact ⟨rfl, rfl, rfl, rfl⟩)
        | (rw [show inI 97 122 v = false from decide_eq_false (fun q => Int32.not_lt.mpr q.1 c_3)]; exact ⟨rfl, rfl, rfl, rfl⟩)
    · refine hv_iconst (v := 1) dX9_isLetter_12 (by decide) ?_
      refine hv_goto (tgt := 17) dX9_isLetter_13 (by decide) ?_
      refine hv_zret dX9_isLetter_17 rfl (by first | exact Or.inl rfl | exact Or.inr rfl | assumption) ?_
      first
        | (rw [show inI 97 122 v = true from decide_eq_true ⟨Int32.not_lt.mp c_3, Int32.not_lt.mp c_9⟩]; exact ⟨rfl, rfl, rfl, rfl⟩)
        | (rw [show inI 97 122 v = false from decide_eq_false (fun q => Int32.not_lt.mpr q.2 c_9)]; exact ⟨rfl, rfl, rfl, rfl⟩)
        | (rw [show inI 97 122 v = false from decide_eq_false (fun q => Int32.not_lt.mpr q.1 c_3)]; exact ⟨rfl, rfl, rfl, rfl⟩)
theorem c_isDigit {v : Int32} {r : hR} : hCal G (m_X9_isDigit (hEq (some (.int (bI (inI 48 57 v)))) r σ τ)) [.int v] shp r σ τ := by
  refine hv_enter pn_X9 rfl ?_
  refine hv_iload_n dX9_isDigit_0 rfl ?_
  refine hv_bipush (v := 48) dX9_isDigit_1 (by decide) ?_
  refine hv_icmp_lt (tgt := 16) dX9_isDigit_3 (by decide) (fun c_3 => ?_) (fun c_3 => ?_)
  · refine hv_iconst (v := 0) dX9_isDigit_16 (by decide) ?_
    refine hv_zret dX9_isDigit_17 rfl (by first | exact Or.inl rfl | exact Or.inr rfl | assumption) ?_
    first
      | (rw [show inI 48 57 v = true from decide_eq_true ⟨Int32.not_lt.mp c_3, Int32.not_lt.mp c_9⟩]; exact ⟨rfl, rfl, rfl, rfl⟩)
      | (rw [show inI 48 57 v = false from decide_eq_false (fun q => Int32.not_lt.mpr q.2 c_9)]; exact ⟨rfl, rfl, rfl, rfl⟩)
      | (rw [show inI 48 57 v = false from decide_eq_false (fun q => Int32.not_lt.mpr q.1 c_3)]; exact ⟨rfl, rfl, rfl, rfl⟩)
  · refine hv_iload_n dX9_isDigit_6 rfl ?_
    refine hv_bipush (v := 57) dX9_isDigit_7 (by decide) ?_
    refine hv_icmp_gt (tgt := 16) dX9_isDigit_9 (by decide) (fun c_9 => ?_) (fun c_9 => ?_)
    · refine hv_iconst (v := 0) dX9_isDigit_16 (by decide) ?_
      refine hv_zret dX9_isDigit_17 rfl (by first | exact Or.inl rfl | exact Or.inr rfl | assumption) ?_
      first
        | (rw [show inI 48 57 v = true from decide_eq_true ⟨Int32.not_lt.mp c_3, Int32.not_lt.mp c_9⟩]; exact ⟨rfl, rfl, rfl, rfl⟩)
        | (rw [show inI 48 57 v = false from decide_eq_false (fun q => Int32.not_lt.mpr q.2 c_9)]; exact ⟨rfl, rfl, rfl, rfl⟩)
        | (rw [show inI 48 57 v = false from decide_eq_false (fun q => Int32.not_lt.mpr q.1 c_3)]; exact ⟨rfl, rfl, rfl, rfl⟩)
    · refine hv_iconst (v := 1) dX9_isDigit_12 (by decide) ?_
      refine hv_goto (tgt := 17) dX9_isDigit_13 (by decide) ?_
      refine hv_zret dX9_isDigit_17 rfl (by first | exact Or.inl rfl | exact Or.inr rfl | assumption) ?_
      first
        | (rw [show inI 48 57 v = true from decide_eq_true ⟨Int32.not_lt.mp c_3, Int32.not_lt.mp c_9⟩]; exact ⟨rfl, rfl, rfl, rfl⟩)
        | (rw [show inI 48 57 v = false from decide_eq_false (fun q => Int32.not_lt.mpr q.2 c_9)]; exact ⟨rfl, rfl, rfl, rfl⟩)
        | (rw [show inI 48 57 v = false from decide_eq_false (fun q => Int32.not_lt.mpr q.1 c_3)]; exact ⟨rfl, rfl, rfl, rfl⟩)
theorem c_skipBlanks {n p : Nat} {f : hF} (hf : σ 2 = f) (hn : σ 1 1 = nI n) (hn2 : n ≤ 2000) (hp : σ 3 6 = nI p) (hp2 : p ≤ n) : hCal G (m_X9_skipBlanks (hQp [3] none (rr 38 51 x y) σ τ (fun σ' => σ' 3 = upd (σ 3) 6 (nI (nb f n 2000 p))))) [.ref (hgA G 3)] shp (rr 38 51 x y) σ τ := by
  refine hv_enter pn_X9 rfl ?_
  have loop : ∀ k i q res (σ' : hS), i + k = 2000 → q ≤ n → nb f n k q = res → (∀ c, c ∉ [3] → σ' c = σ c) → σ' 3 = upd (σ 3) 6 (nI q) → hV G (m_X9_skipBlanks (hQp [3] none (rr 38 51 x y) σ τ (fun σ' => σ' 3 = upd (σ 3) 6 (nI res)))) 0 0 shp 2 [some (.ref (hgA G 3)), some (.int (nI i))] [] (rr 38 51 x y) σ' τ := by
    intro k
    induction k with
    | zero =>
      intro i q res σ' hi hq hr hσ h3
      obtain rfl : i = 2000 := by omega
      refine hv_iload_n dX9_skipBlanks_2 rfl ?_
      refine hv_sipush (v := 2000) dX9_skipBlanks_3 (by decide) ?_
      refine hv_icmp_ge (tgt := 42) dX9_skipBlanks_6 (by decide) (fun c_6 => ?_) (fun c_6 => absurd ((by decide)) c_6)
      refine hv_vret dX9_skipBlanks_42 rfl ?_
      rw [← hr]; exact ⟨rfl, rfl, rfl, hσ, h3⟩
    | succ k ih =>
      intro i q res σ' hi hq hr hσ h3
      have e6 : σ' 3 6 = nI q := by rw [h3, pk_us]
      rw [nb] at hr
      refine hv_iload_n dX9_skipBlanks_2 rfl ?_
      refine hv_sipush (v := 2000) dX9_skipBlanks_3 (by decide) ?_
      refine hv_icmp_ge (tgt := 42) dX9_skipBlanks_6 (by decide) (fun c_6 => absurd c_6 ((nI_ge (b := 2000) (by omega) (by decide)))) (fun c_6 => ?_)
      refine hv_aload_n dX9_skipBlanks_9 rfl ?_
      refine hv_getr dX9_skipBlanks_10 fl_X9_19 (by first | rfl | assumption) rfl (by first | rfl | assumption) ?_
      refine hv_aload_n dX9_skipBlanks_13 rfl ?_
      refine hv_geti dX9_skipBlanks_14 fl_X9_33 (by first | rfl | assumption) rfl ?_
      rw [e6]
      refine hv_cv1 (c_sign (f := f) (n := n) ((hσ 2 (by decide)).trans hf) (by rw [hσ 1 (by decide)]; exact hn) hn2 (by omega)) dX9_skipBlanks_17 ml_X9_50 mk_X7_sign (by first | rfl | assumption) rfl rfl rfl rfl rfl ?_
      rintro _ _ _ _ ⟨rfl, rfl, rfl, rfl⟩
      refine hv_cs1 (c_isBlank) dX9_skipBlanks_20 ml_X9_53 mk_X9_isBlank rfl rfl rfl ?_
      rintro _ _ _ _ ⟨rfl, rfl, rfl, rfl⟩
      rw [bl_tb]
      refine hv_if_eq (tgt := 42) dX9_skipBlanks_23 (by decide) (fun c_23 => ?_) (fun c_23 => ?_)
      · rw [if_neg (fun q => by have hz := tb_t.mpr q; rw [bI_0 c_23] at hz; exact absurd hz (by decide))] at hr
        refine hv_vret dX9_skipBlanks_42 rfl ?_
        rw [← hr]; exact ⟨rfl, rfl, rfl, hσ, h3⟩
      · rw [if_pos (tb_t.mp (bI_1 c_23))] at hr
        have hqn := (tb_t.mp (bI_1 c_23)).1
        refine hv_aload_n dX9_skipBlanks_26 rfl ?_
        refine hv_dup dX9_skipBlanks_27 rfl ?_
        refine hv_geti dX9_skipBlanks_28 fl_X9_33 (by first | rfl | assumption) rfl ?_
        refine hv_iconst (v := 1) dX9_skipBlanks_31 (by decide) ?_
        refine hv_iadd dX9_skipBlanks_32 ?_
        rw [e6, nI_1]
        refine hv_puti dX9_skipBlanks_33 fl_X9_33 (by first | rfl | assumption) rfl rfl rfl ?_
        refine hv_iinc dX9_skipBlanks_36 rfl (nI_1 i) rfl rfl ?_
        refine hv_goto (tgt := 2) dX9_skipBlanks_39 (by decide) ?_
        refine ih (i + 1) (q + 1) res _ (by omega) (by omega) hr (off_up hσ (by decide)) ?_
        rw [hup_eq, h3, upd_up]
  refine hv_iconst (v := 0) dX9_skipBlanks_0 (by decide) ?_
  refine hv_istore_n dX9_skipBlanks_1 rfl rfl ?_
  refine loop 2000 0 p _ σ (by omega) hp2 rfl (fun _ _ => rfl) ?_
  funext j
  unfold upd
  by_cases c : j = 6
  · rw [if_pos c, c]; exact hp
  · rw [if_neg c]
theorem c_letters {n p : Nat} {f : hF} (hf : σ 2 = f) (hn : σ 1 1 = nI n) (hn2 : n ≤ 2000) (hp : σ 3 6 = nI p) (hp2 : p ≤ n) : hCal G (m_X9_letters (hEq (some (.int (nI (rn isLt f n 2000 p)))) (rr 38 51 x y) σ τ)) [.ref (hgA G 3)] shp (rr 38 51 x y) σ τ := by
  refine hv_enter pn_X9 rfl ?_
  have loop : ∀ k i res, i + k = 2000 → i + rn isLt f n k (p + i) = res → hV G (m_X9_letters (hEq (some (.int (nI res))) (rr 38 51 x y) σ τ)) 0 0 shp 4 [some (.ref (hgA G 3)), some (.int (nI i)), some (.int (nI i))] [] (rr 38 51 x y) σ τ := by
    intro k
    induction k with
    | zero =>
      intro i res hi hr
      obtain rfl : i = 2000 := by omega
      refine hv_iload_n dX9_letters_4 rfl ?_
      refine hv_sipush (v := 2000) dX9_letters_5 (by decide) ?_
      refine hv_icmp_ge (tgt := 39) dX9_letters_8 (by decide) (fun c_8 => ?_) (fun c_8 => absurd ((by decide)) c_8)
      refine hv_iload_n dX9_letters_39 rfl ?_
      refine hv_iret dX9_letters_40 rfl ?_
      rw [← hr]; exact ⟨rfl, rfl, rfl, rfl⟩
    | succ k ih =>
      intro i res hi hr
      rw [rn] at hr
      refine hv_iload_n dX9_letters_4 rfl ?_
      refine hv_sipush (v := 2000) dX9_letters_5 (by decide) ?_
      refine hv_icmp_ge (tgt := 39) dX9_letters_8 (by decide) (fun c_8 => absurd c_8 ((nI_ge (b := 2000) (by omega) (by decide)))) (fun c_8 => ?_)
      refine hv_aload_n dX9_letters_11 rfl ?_
      refine hv_getr dX9_letters_12 fl_X9_19 (by first | rfl | assumption) rfl (by first | rfl | assumption) ?_
      refine hv_aload_n dX9_letters_15 rfl ?_
      refine hv_geti dX9_letters_16 fl_X9_33 (by first | rfl | assumption) rfl ?_
      refine hv_iload_n dX9_letters_19 rfl ?_
      refine hv_iadd dX9_letters_20 ?_
      rw [hp, nI_add]
      refine hv_cv1 (c_sign (f := f) (n := n) hf hn hn2 (by omega)) dX9_letters_21 ml_X9_50 mk_X7_sign (by first | rfl | assumption) rfl rfl rfl rfl rfl ?_
      rintro _ _ _ _ ⟨rfl, rfl, rfl, rfl⟩
      refine hv_cs1 (c_isLetter) dX9_letters_24 ml_X9_57 mk_X9_isLetter rfl rfl rfl ?_
      rintro _ _ _ _ ⟨rfl, rfl, rfl, rfl⟩
      rw [show inI 97 122 (sgI f n (p + i)) = tb isLt f n (p + i) from in_tb (lo := 97) (hi := 122) (fun _ => rfl) (by decide) (by decide)]
      refine hv_if_eq (tgt := 39) dX9_letters_27 (by decide) (fun c_27 => ?_) (fun c_27 => ?_)
      · rw [if_neg (fun q => by have hz := tb_t.mpr q; rw [bI_0 c_27] at hz; exact absurd hz (by decide)), Nat.add_zero] at hr
        refine hv_iload_n dX9_letters_39 rfl ?_
        refine hv_iret dX9_letters_40 rfl ?_
        rw [← hr]; exact ⟨rfl, rfl, rfl, rfl⟩
      · rw [if_pos (tb_t.mp (bI_1 c_27))] at hr
        refine hv_iinc dX9_letters_30 rfl (nI_1 i) rfl rfl ?_
        refine hv_iinc dX9_letters_33 rfl (nI_1 i) rfl rfl ?_
        refine hv_goto (tgt := 4) dX9_letters_36 (by decide) ?_
        exact ih (i + 1) res (by omega) (by rw [← hr, show p + (i + 1) = p + i + 1 by omega]; omega)
  refine hv_iconst (v := 0) dX9_letters_0 (by decide) ?_
  refine hv_istore_n dX9_letters_1 rfl rfl ?_
  refine hv_iconst (v := 0) dX9_letters_2 (by decide) ?_
  refine hv_istore_n dX9_letters_3 rfl rfl ?_
  exact loop 2000 0 _ (by omega) (by rw [Nat.zero_add, Nat.add_zero])
theorem c_digits {n p : Nat} {f : hF} (hf : σ 2 = f) (hn : σ 1 1 = nI n) (hn2 : n ≤ 2000) (hp : σ 3 6 = nI p) (hp2 : p ≤ n) : hCal G (m_X9_digits (hEq (some (.int (nI (rn isDg f n 2000 p)))) (rr 38 51 x y) σ τ)) [.ref (hgA G 3)] shp (rr 38 51 x y) σ τ := by
  refine hv_enter pn_X9 rfl ?_
  have loop : ∀ k i res, i + k = 2000 → i + rn isDg f n k (p + i) = res → hV G (m_X9_digits (hEq (some (.int (nI res))) (rr 38 51 x y) σ τ)) 0 0 shp 4 [some (.ref (hgA G 3)), some (.int (nI i)), some (.int (nI i))] [] (rr 38 51 x y) σ τ := by
    intro k
    induction k with
    | zero =>
      intro i res hi hr
      obtain rfl : i = 2000 := by omega
      refine hv_iload_n dX9_digits_4 rfl ?_
      refine hv_sipush (v := 2000) dX9_digits_5 (by decide) ?_
      refine hv_icmp_ge (tgt := 39) dX9_digits_8 (by decide) (fun c_8 => ?_) (fun c_8 => absurd ((by decide)) c_8)
      refine hv_iload_n dX9_digits_39 rfl ?_
      refine hv_iret dX9_digits_40 rfl ?_
      rw [← hr]; exact ⟨rfl, rfl, rfl, rfl⟩
    | succ k ih =>
      intro i res hi hr
      rw [rn] at hr
      refine hv_iload_n dX9_digits_4 rfl ?_
      refine hv_sipush (v := 2000) dX9_digits_5 (by decide) ?_
      refine hv_icmp_ge (tgt := 39) dX9_digits_8 (by decide) (fun c_8 => absurd c_8 ((nI_ge (b := 2000) (by omega) (by decide)))) (fun c_8 => ?_)
      refine hv_aload_n dX9_digits_11 rfl ?_
      refine hv_getr dX9_digits_12 fl_X9_19 (by first | rfl | assumption) rfl (by first | rfl | assumption) ?_
      refine hv_aload_n dX9_digits_15 rfl ?_
      refine hv_geti dX9_digits_16 fl_X9_33 (by first | rfl | assumption) rfl ?_
      refine hv_iload_n dX9_digits_19 rfl ?_
      refine hv_iadd dX9_digits_20 ?_
      rw [hp, nI_add]
      refine hv_cv1 (c_sign (f := f) (n := n) hf hn hn2 (by omega)) dX9_digits_21 ml_X9_50 mk_X7_sign (by first | rfl | assumption) rfl rfl rfl rfl rfl ?_
      rintro _ _ _ _ ⟨rfl, rfl, rfl, rfl⟩
      refine hv_cs1 (c_isDigit) dX9_digits_24 ml_X9_67 mk_X9_isDigit rfl rfl rfl ?_
      rintro _ _ _ _ ⟨rfl, rfl, rfl, rfl⟩
      rw [show inI 48 57 (sgI f n (p + i)) = tb isDg f n (p + i) from in_tb (lo := 48) (hi := 57) (fun _ => rfl) (by decide) (by decide)]
      refine hv_if_eq (tgt := 39) dX9_digits_27 (by decide) (fun c_27 => ?_) (fun c_27 => ?_)
      · rw [if_neg (fun q => by have hz := tb_t.mpr q; rw [bI_0 c_27] at hz; exact absurd hz (by decide)), Nat.add_zero] at hr
        refine hv_iload_n dX9_digits_39 rfl ?_
        refine hv_iret dX9_digits_40 rfl ?_
        rw [← hr]; exact ⟨rfl, rfl, rfl, rfl⟩
      · rw [if_pos (tb_t.mp (bI_1 c_27))] at hr
        refine hv_iinc dX9_digits_30 rfl (nI_1 i) rfl rfl ?_
        refine hv_iinc dX9_digits_33 rfl (nI_1 i) rfl rfl ?_
        refine hv_goto (tgt := 4) dX9_digits_36 (by decide) ?_
        exact ih (i + 1) res (by omega) (by rw [← hr, show p + (i + 1) = p + i + 1 by omega]; omega)
  refine hv_iconst (v := 0) dX9_digits_0 (by decide) ?_
  refine hv_istore_n dX9_digits_1 rfl rfl ?_
  refine hv_iconst (v := 0) dX9_digits_2 (by decide) ?_
  refine hv_istore_n dX9_digits_3 rfl rfl ?_
  exact loop 2000 0 _ (by omega) (by rw [Nat.zero_add, Nat.add_zero])
theorem c_number {n p m : Nat} {f : hF} (hf : σ 2 = f) (hn : σ 1 1 = nI n) (hn2 : n ≤ 2000) (hp : σ 3 6 = nI p) (hm4 : m ≤ 4) (hm : ∀ i, i < m → p + i < n ∧ isDg (bN f (p + i)) = true) : hCal G (m_X9_number (hEq (some (.int (nI (num f p m)))) (rr 38 51 x y) σ τ)) [.ref (hgA G 3), .int (nI m)] shp (rr 38 51 x y) σ τ := by
  refine hv_enter pn_X9 rfl ?_
  have loop : ∀ k i v, i + k = m → v = num f p i → hV G (m_X9_number (hEq (some (.int (nI (num f p m)))) (rr 38 51 x y) σ τ)) 0 0 shp 4 [some (.ref (hgA G 3)), some (.int (nI m)), some (.int (nI v)), some (.int (nI i))] [] (rr 38 51 x y) σ τ := by
    intro k
    induction k with
    | zero =>
      intro i v hi hv
      obtain rfl : i = m := by omega
      refine hv_iload_n dX9_number_4 rfl ?_
      refine hv_iload_n dX9_number_5 rfl ?_
      refine hv_icmp_ge (tgt := 37) dX9_number_6 (by decide) (fun c_6 => ?_) (fun c_6 => absurd ((nI_le (Nat.le_refl _) (by omega))) c_6)
      refine hv_iload_n dX9_number_37 rfl ?_
      refine hv_iret dX9_number_38 rfl ?_
      rw [hv]; exact ⟨rfl, rfl, rfl, rfl⟩
    | succ k ih =>
      intro i v hi hv
      obtain ⟨m1, m2⟩ := hm i (by omega)
      have m3 := of_decide_eq_true m2
      refine hv_iload_n dX9_number_4 rfl ?_
      refine hv_iload_n dX9_number_5 rfl ?_
      refine hv_icmp_ge (tgt := 37) dX9_number_6 (by decide) (fun c_6 => absurd c_6 ((nI_ge (by omega) (by omega)))) (fun c_6 => ?_)
      refine hv_iload_n dX9_number_9 rfl ?_
      refine hv_bipush (v := 10) dX9_number_10 (by decide) ?_
      refine hv_imul dX9_number_12 ?_
      refine hv_aload_n dX9_number_13 rfl ?_
      refine hv_getr dX9_number_14 fl_X9_19 (by first | rfl | assumption) rfl (by first | rfl | assumption) ?_
      refine hv_aload_n dX9_number_17 rfl ?_
      refine hv_geti dX9_number_18 fl_X9_33 (by first | rfl | assumption) rfl ?_
      refine hv_iload_n dX9_number_21 rfl ?_
      refine hv_iadd dX9_number_22 ?_
      rw [hp, nI_add]
      refine hv_cv1 (c_sign (f := f) (n := n) hf hn hn2 (by omega)) dX9_number_23 ml_X9_50 mk_X7_sign (by first | rfl | assumption) rfl rfl rfl rfl rfl ?_
      rintro _ _ _ _ ⟨rfl, rfl, rfl, rfl⟩
      rw [show sgI f n (p + i) = nI (bN f (p + i)) from if_pos m1, show nI v * 10 = nI (v * 10) from pk_mul v 10]
      refine hv_iadd dX9_number_26 ?_
      rw [nI_add]
      refine hv_bipush (v := 48) dX9_number_27 (by decide) ?_
      refine hv_isub dX9_number_29 ?_
      rw [show nI (v * 10 + bN f (p + i)) - 48 = nI (v * 10 + bN f (p + i) - 48) from pk_sub (b := 48) (by omega)]
      refine hv_istore_n dX9_number_30 rfl rfl ?_
      refine hv_iinc dX9_number_31 rfl (nI_1 i) rfl rfl ?_
      refine hv_goto (tgt := 4) dX9_number_34 (by decide) ?_
      exact ih (i + 1) _ (by omega) (by rw [num, ← hv]; omega)
  refine hv_iconst (v := 0) dX9_number_0 (by decide) ?_
  refine hv_istore_n dX9_number_1 rfl rfl ?_
  refine hv_iconst (v := 0) dX9_number_2 (by decide) ?_
  refine hv_istore_n dX9_number_3 rfl rfl ?_
  exact loop m 0 0 (by omega) rfl
theorem c_isWord {n p m w : Nat} {f : hF} (hf : σ 2 = f) (hn : σ 1 1 = nI n) (hn2 : n ≤ 2000) (hp : σ 3 6 = nI p) (hw : w < 23) (hm6 : m ≤ 6) (hm : ∀ i, i < m → p + i < n ∧ isLt (bN f (p + i)) = true) : hCal G (m_X9_isWord (hEq (some (.int (bI (decide (dgs f p m = keyW w))))) (rr 38 51 x y) σ τ)) [.ref (hgA G 3), .int (nI w), .int (nI m)] shp (rr 38 51 x y) σ τ := by
  have hwe := word_eq (f := f) (p := p) (m := m) hw (fun i hi => (hm i hi).2) hm6
  refine hv_enter pn_X9 rfl ?_
  have loop : ∀ k i s (l5 : Option Value), i + k = 6 → ((s = 1 ∧ ∀ j, j < i → wch (w * 6 + j) = if j < m then nI (bN f (p + j)) else 32) ∨ (s = 0 ∧ ¬ ∀ i, i < 6 → wch (w * 6 + i) = if i < m then nI (bN f (p + i)) else 32)) → hV G (m_X9_isWord (hEq (some (.int (bI (decide (dgs f p m = keyW w))))) (rr 38 51 x y) σ τ)) 0 0 shp 5 [some (.ref (hgA G 3)), some (.int (nI w)), some (.int (nI m)), some (.int s), some (.int (nI i)), l5] [] (rr 38 51 x y) σ τ := by
    intro k
    induction k with
    | zero =>
      intro i s l5 hi hs
      obtain rfl : i = 6 := by omega
      refine hv_iload dX9_isWord_5 rfl ?_
      refine hv_bipush (v := 6) dX9_isWord_7 (by decide) ?_
      refine hv_icmp_ge (tgt := 72) dX9_isWord_9 (by decide) (fun c_9 => ?_) (fun c_9 => absurd ((by decide)) c_9)
      refine hv_iload_n dX9_isWord_72 rfl ?_
      refine hv_zret dX9_isWord_73 rfl (by rcases hs with ⟨rfl, _⟩ | ⟨rfl, _⟩; exact Or.inr rfl; exact Or.inl rfl) ?_
      rcases hs with ⟨rfl, h2⟩ | ⟨rfl, h2⟩
      · rw [decide_eq_true (hwe.mp h2)]; exact ⟨rfl, rfl, rfl, rfl⟩
      · rw [decide_eq_false (fun q => h2 (hwe.mpr q))]; exact ⟨rfl, rfl, rfl, rfl⟩
    | succ k ih =>
      intro i s l5 hi hs
      rcases hs with ⟨rfl, h2⟩ | ⟨rfl, h2⟩
      · obtain ⟨sg, hsg⟩ : ∃ sg, (if i < m then nI (bN f (p + i)) else 32) = sg := ⟨_, rfl⟩
        refine hv_iload dX9_isWord_5 rfl ?_
        refine hv_bipush (v := 6) dX9_isWord_7 (by decide) ?_
        refine hv_icmp_ge (tgt := 72) dX9_isWord_9 (by decide) (fun c_9 => absurd c_9 ((nI_ge (b := 6) (by omega) (by decide)))) (fun c_9 => ?_)
        refine hv_iload_n dX9_isWord_12 rfl ?_
        refine hv_if_eq (tgt := 72) dX9_isWord_13 (by decide) (fun c_13 => absurd c_13 ((by decide))) (fun c_13 => ?_)
        refine hv_iload dX9_isWord_16 rfl ?_
        refine hv_iload_n dX9_isWord_18 rfl ?_
        refine hv_icmp_ge (tgt := 39) dX9_isWord_19 (by decide) (fun c_19 => ?_) (fun c_19 => ?_)
        · rw [if_neg (show ¬ i < m from fun q => nI_ge q (by omega) c_19)] at hsg
          refine hv_bipush (v := 32) dX9_isWord_39 (by decide) ?_
          refine hv_str (congrArg (fun z => [Value.int z]) hsg) ?_
          refine hv_istore dX9_isWord_41 rfl rfl ?_
          refine hv_ldcK0 dX9_isWord_43 rfl ?_
          refine hv_iload_n dX9_isWord_45 rfl ?_
          refine hv_bipush (v := 6) dX9_isWord_46 (by decide) ?_
          refine hv_imul dX9_isWord_48 ?_
          refine hv_iload dX9_isWord_49 rfl ?_
          refine hv_iadd dX9_isWord_51 ?_
          rw [show nI w * 6 = nI (w * 6) from pk_mul w 6, nI_add]
          refine hv_cw1 (i := 0) (by decide) (s_charAt (j := w * 6 + i) (by omega)) dX9_isWord_52 ml_X9_93 mk_J0_charAt_5068e rfl rfl rfl rfl ?_
          rintro _ _ _ _ ⟨rfl, rfl, rfl, rfl⟩
          refine hv_iload dX9_isWord_55 rfl ?_
          refine hv_icmp_ne (tgt := 64) dX9_isWord_57 (by decide) (fun c_57 => ?_) (fun c_57 => ?_)
          · refine hv_iconst (v := 0) dX9_isWord_64 (by decide) ?_
            refine hv_istore_n dX9_isWord_65 rfl rfl ?_
            refine hv_iinc dX9_isWord_66 rfl (nI_1 i) rfl rfl ?_
            refine hv_goto (tgt := 5) dX9_isWord_69 (by decide) ?_
            first
              | exact ih (i + 1) 1 _ (by omega) (Or.inl ⟨rfl, fun j hj => by
                  by_cases e : j = i
                  · subst e; first | rw [if_pos him, hsg]; exact c_57 | (rw [if_neg (show ¬ j < m from fun q => nI_ge q (by omega) c_19), hsg]; exact c_57)
                  · exact h2 j (by omega)⟩)
              | exact ih (i + 1) 0 _ (by omega) (Or.inr ⟨rfl, fun q => c_57 (by have := q i (by omega); first | rw [if_pos him, hsg] at this; exact this | (rw [if_neg (show ¬ i < m from fun q => nI_ge q (by omega) c_19), hsg] at this; exact this))⟩)
          · refine hv_iconst (v := 1) dX9_isWord_60 (by decide) ?_
            refine hv_goto (tgt := 65) dX9_isWord_61 (by decide) ?_
            refine hv_istore_n dX9_isWord_65 rfl rfl ?_
            refine hv_iinc dX9_isWord_66 rfl (nI_1 i) rfl rfl ?_
            refine hv_goto (tgt := 5) dX9_isWord_69 (by decide) ?_
            first
              | exact ih (i + 1) 1 _ (by omega) (Or.inl ⟨rfl, fun j hj => by
                  by_cases e : j = i
                  · subst e; first | rw [if_pos him, hsg]; exact c_57 | (rw [if_neg (show ¬ j < m from fun q => nI_ge q (by omega) c_19), hsg]; exact c_57)
                  · exact h2 j (by omega)⟩)
              | exact ih (i + 1) 0 _ (by omega) (Or.inr ⟨rfl, fun q => c_57 (by have := q i (by omega); first | rw [if_pos him, hsg] at this; exact this | (rw [if_neg (show ¬ i < m from fun q => nI_ge q (by omega) c_19), hsg] at this; exact this))⟩)
        · have him : i < m := (nI_ltI (by omega) (by omega)).mp (Int32.not_le.mp c_19)
          rw [if_pos him] at hsg
          refine hv_aload_n dX9_isWord_22 rfl ?_
          refine hv_getr dX9_isWord_23 fl_X9_19 (by first | rfl | assumption) rfl (by first | rfl | assumption) ?_
          refine hv_aload_n dX9_isWord_26 rfl ?_
          refine hv_geti dX9_isWord_27 fl_X9_33 (by first | rfl | assumption) rfl ?_
          refine hv_iload dX9_isWord_30 rfl ?_
          refine hv_iadd dX9_isWord_32 ?_
          rw [hp, nI_add]
          refine hv_cv1 (c_sign (f := f) (n := n) hf hn hn2 (by have := (hm i him).1; omega)) dX9_isWord_33 ml_X9_50 mk_X7_sign (by first | rfl | assumption) rfl rfl rfl rfl rfl ?_
          rintro _ _ _ _ ⟨rfl, rfl, rfl, rfl⟩
          rw [show sgI f n (p + i) = nI (bN f (p + i)) from if_pos (hm i him).1]
          refine hv_goto (tgt := 41) dX9_isWord_36 (by decide) ?_
          refine hv_str (congrArg (fun z => [Value.int z]) hsg) ?_
          refine hv_istore dX9_isWord_41 rfl rfl ?_
          refine hv_ldcK0 dX9_isWord_43 rfl ?_
          refine hv_iload_n dX9_isWord_45 rfl ?_
          refine hv_bipush (v := 6) dX9_isWord_46 (by decide) ?_
          refine hv_imul dX9_isWord_48 ?_
          refine hv_iload dX9_isWord_49 rfl ?_
          refine hv_iadd dX9_isWord_51 ?_
          rw [show nI w * 6 = nI (w * 6) from pk_mul w 6, nI_add]
          refine hv_cw1 (i := 0) (by decide) (s_charAt (j := w * 6 + i) (by omega)) dX9_isWord_52 ml_X9_93 mk_J0_charAt_5068e rfl rfl rfl rfl ?_
          rintro _ _ _ _ ⟨rfl, rfl, rfl, rfl⟩
          refine hv_iload dX9_isWord_55 rfl ?_
          refine hv_icmp_ne (tgt := 64) dX9_isWord_57 (by decide) (fun c_57 => ?_) (fun c_57 => ?_)
          · refine hv_iconst (v := 0) dX9_isWord_64 (by decide) ?_
            refine hv_istore_n dX9_isWord_65 rfl rfl ?_
            refine hv_iinc dX9_isWord_66 rfl (nI_1 i) rfl rfl ?_
            refine hv_goto (tgt := 5) dX9_isWord_69 (by decide) ?_
            first
              | exact ih (i + 1) 1 _ (by omega) (Or.inl ⟨rfl, fun j hj => by
                  by_cases e : j = i
                  · subst e; first | rw [if_pos him, hsg]; exact c_57 | (rw [if_neg (show ¬ j < m from fun q => nI_ge q (by omega) c_19), hsg]; exact c_57)
                  · exact h2 j (by omega)⟩)
              | exact ih (i + 1) 0 _ (by omega) (Or.inr ⟨rfl, fun q => c_57 (by have := q i (by omega); first | rw [if_pos him, hsg] at this; exact this | (rw [if_neg (show ¬ i < m from fun q => nI_ge q (by omega) c_19), hsg] at this; exact this))⟩)
          · refine hv_iconst (v := 1) dX9_isWord_60 (by decide) ?_
            refine hv_goto (tgt := 65) dX9_isWord_61 (by decide) ?_
            refine hv_istore_n dX9_isWord_65 rfl rfl ?_
            refine hv_iinc dX9_isWord_66 rfl (nI_1 i) rfl rfl ?_
            refine hv_goto (tgt := 5) dX9_isWord_69 (by decide) ?_
            first
              | exact ih (i + 1) 1 _ (by omega) (Or.inl ⟨rfl, fun j hj => by
                  by_cases e : j = i
                  · subst e; first | rw [if_pos him, hsg]; exact c_57 | (rw [if_neg (show ¬ j < m from fun q => nI_ge q (by omega) c_19), hsg]; exact c_57)
                  · exact h2 j (by omega)⟩)
              | exact ih (i + 1) 0 _ (by omega) (Or.inr ⟨rfl, fun q => c_57 (by have := q i (by omega); first | rw [if_pos him, hsg] at this; exact this | (rw [if_neg (show ¬ i < m from fun q => nI_ge q (by omega) c_19), hsg] at this; exact this))⟩)
      · skip
        refine hv_iload dX9_isWord_5 rfl ?_
        refine hv_bipush (v := 6) dX9_isWord_7 (by decide) ?_
        refine hv_icmp_ge (tgt := 72) dX9_isWord_9 (by decide) (fun c_9 => absurd c_9 ((nI_ge (b := 6) (by omega) (by decide)))) (fun c_9 => ?_)
        refine hv_iload_n dX9_isWord_12 rfl ?_
        refine hv_if_eq (tgt := 72) dX9_isWord_13 (by decide) (fun c_13 => ?_) (fun c_13 => absurd ((by decide)) c_13)
        refine hv_iload_n dX9_isWord_72 rfl ?_
        refine hv_zret dX9_isWord_73 rfl (by first | exact Or.inl rfl | exact Or.inr rfl | assumption) ?_
        rw [decide_eq_false (fun q => h2 (hwe.mpr q))]; exact ⟨rfl, rfl, rfl, rfl⟩
  refine hv_iconst (v := 1) dX9_isWord_0 (by decide) ?_
  refine hv_istore_n dX9_isWord_1 rfl rfl ?_
  refine hv_iconst (v := 0) dX9_isWord_2 (by decide) ?_
  refine hv_istore dX9_isWord_3 rfl rfl ?_
  exact loop 6 0 1 none (by omega) (Or.inl ⟨rfl, fun j hj => absurd hj (by omega)⟩)
theorem c_wordOrName {n p m : Nat} {f : hF} (hf : σ 2 = f) (hn : σ 1 1 = nI n) (hn2 : n ≤ 2000) (hp : σ 3 6 = nI p) (hm8 : m ≤ 8) (hm : ∀ i, i < m → p + i < n ∧ isLt (bN f (p + i)) = true) : hCal G (m_X9_wordOrName (hEq (some (.int (nI (wkF (dgs f p m) 23)))) (rr 38 51 x y) σ τ)) [.ref (hgA G 3), .int (nI m)] shp (rr 38 51 x y) σ τ := by
  refine hv_enter pn_X9 rfl ?_
  by_cases c6 : 6 < m
  · rw [wk_long (fun i hi => (hm i hi).2) c6]
    refine hv_iconst (v := 0) dX9_wordOrName_0 (by decide) ?_
    refine hv_istore_n dX9_wordOrName_1 rfl rfl ?_
    refine hv_iload_n dX9_wordOrName_2 rfl ?_
    refine hv_bipush (v := 23) dX9_wordOrName_3 (by decide) ?_
    refine hv_icmp_ge (tgt := 31) dX9_wordOrName_5 (by decide) (fun c_5 => absurd c_5 ((by decide))) (fun c_5 => ?_)
    refine hv_iload_n dX9_wordOrName_8 rfl ?_
    refine hv_bipush (v := 6) dX9_wordOrName_9 (by decide) ?_
    refine hv_icmp_gt (tgt := 31) dX9_wordOrName_11 (by decide) (fun c_11 => ?_) (fun c_11 => absurd ((nI_lt (a := 6) c6 (by omega))) c_11)
    refine hv_bipush (v := 23) dX9_wordOrName_31 (by decide) ?_
    refine hv_iret dX9_wordOrName_33 rfl ?_
    exact ⟨rfl, rfl, rfl, rfl⟩
  · have loop : ∀ k i, i + k = 23 → (∀ w, w < i → ¬ keyW w = dgs f p m) → hV G (m_X9_wordOrName (hEq (some (.int (nI (wkF (dgs f p m) 23)))) (rr 38 51 x y) σ τ)) 0 0 shp 2 [some (.ref (hgA G 3)), some (.int (nI m)), some (.int (nI i))] [] (rr 38 51 x y) σ τ := by
      intro k
      induction k with
      | zero =>
        intro i hi h2
        obtain rfl : i = 23 := by omega
        refine hv_iload_n dX9_wordOrName_2 rfl ?_
        refine hv_bipush (v := 23) dX9_wordOrName_3 (by decide) ?_
        refine hv_icmp_ge (tgt := 31) dX9_wordOrName_5 (by decide) (fun c_5 => ?_) (fun c_5 => absurd ((by decide)) c_5)
        refine hv_bipush (v := 23) dX9_wordOrName_31 (by decide) ?_
        refine hv_iret dX9_wordOrName_33 rfl ?_
        rw [wkF_no 23 h2]; exact ⟨rfl, rfl, rfl, rfl⟩
      | succ k ih =>
        intro i hi h2
        refine hv_iload_n dX9_wordOrName_2 rfl ?_
        refine hv_bipush (v := 23) dX9_wordOrName_3 (by decide) ?_
        refine hv_icmp_ge (tgt := 31) dX9_wordOrName_5 (by decide) (fun c_5 => absurd c_5 ((nI_ge (b := 23) (by omega) (by decide)))) (fun c_5 => ?_)
        refine hv_iload_n dX9_wordOrName_8 rfl ?_
        refine hv_bipush (v := 6) dX9_wordOrName_9 (by decide) ?_
        refine hv_icmp_gt (tgt := 31) dX9_wordOrName_11 (by decide) (fun c_11 => absurd c_11 ((nI_nlt (a := 6) (by omega) (by decide)))) (fun c_11 => ?_)
        refine hv_aload_n dX9_wordOrName_14 rfl ?_
        refine hv_iload_n dX9_wordOrName_15 rfl ?_
        refine hv_iload_n dX9_wordOrName_16 rfl ?_
        refine hv_cv2 (c_isWord (f := f) (n := n) hf hn hn2 hp (by omega) (by omega) hm) dX9_wordOrName_17 ml_X9_87 mk_X9_isWord (by first | rfl | assumption) rfl rfl rfl rfl rfl ?_
        rintro _ _ _ _ ⟨rfl, rfl, rfl, rfl⟩
        refine hv_if_eq (tgt := 25) dX9_wordOrName_20 (by decide) (fun c_20 => ?_) (fun c_20 => ?_)
        · refine hv_iinc dX9_wordOrName_25 rfl (nI_1 i) rfl rfl ?_
          refine hv_goto (tgt := 2) dX9_wordOrName_28 (by decide) ?_
          exact ih (i + 1) (by omega) (fun w hw => by
            by_cases e : w = i
            · subst e; exact fun q => of_decide_eq_false (bI_0 c_20) q.symm
            · exact h2 w (by omega))
        · rw [wkF_at 23 (Nat.le_refl _) (show i < 23 by omega) (of_decide_eq_true (bI_1 c_20)).symm]
          refine hv_iload_n dX9_wordOrName_23 rfl ?_
          refine hv_iret dX9_wordOrName_24 rfl ?_
          exact ⟨rfl, rfl, rfl, rfl⟩
    refine hv_iconst (v := 0) dX9_wordOrName_0 (by decide) ?_
    refine hv_istore_n dX9_wordOrName_1 rfl rfl ?_
    exact loop 23 0 (by omega) (fun w hw => absurd hw (by omega))
theorem c_tput {sz : Nat} {k v : Int32} (h5 : σ 3 5 = nI sz) (hsz : sz ≤ 400) : hCal G (m_X9_put (hQp [3, 4, 5, 6] none (rr 38 51 x y) σ τ (fun σ' => σ' 4 = upd (σ 4) sz k ∧ σ' 5 = upd (σ 5) sz (σ 3 6) ∧ σ' 6 = upd (σ 6) sz v ∧ σ' 3 = upd (σ 3) 5 (nI (sz + 1))))) [.ref (hgA G 3), .int k, .int v] shp (rr 38 51 x y) σ τ := by
  refine hv_enter pn_X9 rfl ?_
  refine hv_aload_n dX9_put_0 rfl ?_
  refine hv_geti dX9_put_1 fl_X9_23 (by first | rfl | assumption) rfl ?_
  refine hv_sipush (v := 400) dX9_put_4 (by decide) ?_
  refine hv_icmp_gt (tgt := 53) dX9_put_7 (by decide) (fun c_7 => absurd c_7 ((by rw [h5]; exact nI_nlt (a := 400) hsz (by decide)))) (fun c_7 => ?_)
  refine hv_aload_n dX9_put_10 rfl ?_
  refine hv_getr dX9_put_11 fl_X9_9 (by first | rfl | assumption) rfl (by first | rfl | assumption) ?_
  refine hv_aload_n dX9_put_14 rfl ?_
  refine hv_geti dX9_put_15 fl_X9_23 (by first | rfl | assumption) rfl ?_
  refine hv_iload_n dX9_put_18 rfl ?_
  refine hv_iast dX9_put_19 (by first | rfl | assumption) (j := sz) h5 (by omega) (by first | decide | assumption) ?_
  refine hv_aload_n dX9_put_20 rfl ?_
  refine hv_getr dX9_put_21 fl_X9_13 (by first | rfl | assumption) rfl (by first | rfl | assumption) ?_
  refine hv_aload_n dX9_put_24 rfl ?_
  refine hv_geti dX9_put_25 fl_X9_23 (by first | rfl | assumption) rfl ?_
  refine hv_aload_n dX9_put_28 rfl ?_
  refine hv_geti dX9_put_29 fl_X9_33 (by first | rfl | assumption) rfl ?_
  refine hv_iast dX9_put_32 (by first | rfl | assumption) (j := sz) h5 (by omega) (by first | decide | assumption) ?_
  refine hv_aload_n dX9_put_33 rfl ?_
  refine hv_getr dX9_put_34 fl_X9_16 (by first | rfl | assumption) rfl (by first | rfl | assumption) ?_
  refine hv_aload_n dX9_put_37 rfl ?_
  refine hv_geti dX9_put_38 fl_X9_23 (by first | rfl | assumption) rfl ?_
  refine hv_iload_n dX9_put_41 rfl ?_
  refine hv_iast dX9_put_42 (by first | rfl | assumption) (j := sz) h5 (by omega) (by first | decide | assumption) ?_
  refine hv_aload_n dX9_put_43 rfl ?_
  refine hv_dup dX9_put_44 rfl ?_
  refine hv_geti dX9_put_45 fl_X9_23 (by first | rfl | assumption) rfl ?_
  refine hv_iconst (v := 1) dX9_put_48 (by decide) ?_
  refine hv_iadd dX9_put_49 ?_
  rw [hva_ne (show 3 ≠ 6 by decide), hva_ne (show 3 ≠ 5 by decide), hva_ne (show 3 ≠ 4 by decide), h5, nI_1]
  refine hv_puti dX9_put_50 fl_X9_23 (by first | rfl | assumption) rfl rfl rfl ?_
  refine hv_vret dX9_put_53 rfl ?_
  refine ⟨rfl, rfl, rfl, off_up (off_up (off_up (off_up (fun _ _ => rfl) (by decide)) (by decide)) (by decide)) (by decide), ?_, ?_, ?_, ?_⟩
  all_goals simp [va_up]
end S68

