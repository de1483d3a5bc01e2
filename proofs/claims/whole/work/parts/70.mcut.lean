abbrev m_X12_byteAt (Q : hPo) : hMe := (hrm 0, 0, 0, yX12_byteAt, cX12_byteAt, 2, (some FieldType.int), shp, none, Q)
abbrev m_X12_isDigit (Q : hPo) : hMe := (hrm 0, 0, 0, yX12_isDigit, cX12_isDigit, 1, (some FieldType.boolean), shp, none, Q)
abbrev m_X12_isLetter (Q : hPo) : hMe := (hrm 0, 0, 0, yX12_isLetter, cX12_isLetter, 1, (some FieldType.boolean), shp, none, Q)
abbrev m_X12_appends (Q : hPo) : hMe := (hrm 0, 0, 0, yX12_appends, cX12_appends, 3, (some FieldType.long), shp, none, Q)
abbrev m_X12_token (Q : hPo) : hMe := (hrm 0, 0, 0, yX12_token, cX12_token, 6, (none : Option FieldType), shp, none, Q)
abbrev m_X12_sign (Q : hPo) : hMe := (hrm 1, 0, 0, yX12_sign, cX12_sign, 5, (some FieldType.int), shp, none, Q)
abbrev m_X12_cut (Q : hPo) : hMe := (hrm 2, 0, 0, yX12_cut, cX12_cut, 8, (none : Option FieldType), shp, none, Q)
/-- as hQp, with the longs -/
def hQt (X Y : List Nat) (v : Option Value) (r : hR) (σ : hS) (τ : hT) (P : hS → hT → Prop) : hPo := fun v' r' σ' τ' => v = v' ∧ r = r' ∧ (∀ k, k ∉ X → σ' k = σ k) ∧ (∀ k, k ∉ Y → τ' k = τ k) ∧ P σ' τ'
theorem offT_tr {X Y Z : List Nat} {τ τ1 τ2 : hT} (h1 : ∀ k, k ∉ X → τ1 k = τ k) (h2 : ∀ k, k ∉ Y → τ2 k = τ1 k) (hX : X.all (fun c => Z.contains c) = true) (hY : Y.all (fun c => Z.contains c) = true) : ∀ k, k ∉ Z → τ2 k = τ k := by
  intro k hk
  have e1 : k ∉ X := fun q => hk (by have := List.all_eq_true.mp hX k q; simpa using this)
  have e2 : k ∉ Y := fun q => hk (by have := List.all_eq_true.mp hY k q; simpa using this)
  rw [h2 k e2, h1 k e1]
def bzI (f : hF) (n p : Nat) : Int32 := if p < n then nI (bN f p) else 0
theorem inz_tb {lo hi : Nat} {S : Nat → Bool} {f : hF} {n p : Nat} (hS : ∀ b, S b = decide (lo ≤ b ∧ b ≤ hi)) (h0 : 0 < lo) (hlo : lo < 256) (hhi : hi < 256) : inI (nI lo) (nI hi) (bzI f n p) = tb S f n p := by
  have hb := bN_lt f p
  unfold tb bzI inI
  by_cases c : p < n
  · rw [if_pos c, decide_eq_true c, Bool.true_and, hS]
    apply decide_eq_decide.mpr
    rw [nI_leI (by omega) (by omega), nI_leI (by omega) (by omega)]
  · rw [if_neg c, decide_eq_false c, Bool.false_and]
    exact decide_eq_false (fun q => nI_nle h0 (by omega) q.1)
def apN (d c : Nat) : Nat := if c = 0 then d else 27 * d + (c - 96)
/-- the reference's number of a kind -/
def kap (k : Nat) : Nat := if k < 23 then 20 + k else [1, 2, 0, 3, 4, 5, 8, 9, 10, 15, 13, 6, 7].getD (k - 23) 0
theorem kap_inj : ∀ a, a < 36 → ∀ b, b < 36 → kap a = kap b → a = b := by decide +kernel
theorem kap_lt : ∀ a, a < 36 → kap a ≤ 42 := by decide +kernel
theorem kap_sgn : ∀ b, b < 256 → kap (sgn b) = (if b = 59 then 4 else if b = 61 then 5 else if b = 40 then 6 else if b = 41 then 7 else if b = 43 then 8 else if b = 45 then 9 else if b = 42 then 10 else if b = 47 then 15 else if b = 60 then 13 else 3) := by decide +kernel
def tokM (f : hF) (n : Nat) (σ : hS) (τ : hT) : Prop := ∀ i, rel f n i → σ 67 i = nI (kap (kd f n i)) ∧ σ 68 i = nI (tq f n i) ∧ (kd f n i = 24 → σ 69 i = nI (vl f n i)) ∧ (kd f n i = 23 → τ 70 i = lN (dg f n i))
section S70
variable {G : hGl} {σ : hS} {τ : hT} {x y : Option Nat}
theorem d_byteAt {n p : Nat} {f : hF} (hf : ∀ i, i < n → σ 66 i = f i) (hn : σ 64 4 = nI n) (hn2 : n ≤ 2000) (hp : p < 2 ^ 30) : hCal G (m_X12_byteAt (hEq (some (.int (bzI f n p))) (rr 38 51 x y) σ τ)) [.ref (hgA G 64), .int (nI p)] shp (rr 38 51 x y) σ τ := by
  refine hv_enter pn_X12 rfl ?_
  by_cases c : p < n
  · rw [show bzI f n p = nI (bN f p) from if_pos c]
    refine hv_iload_n dX12_byteAt_0 rfl ?_
    refine hv_aload_n dX12_byteAt_1 rfl ?_
    refine hv_geti dX12_byteAt_2 fl_X12_172 (by first | rfl | assumption) rfl ?_
    refine hv_icmp_ge (tgt := 21) dX12_byteAt_5 (by decide) (fun c_5 => absurd c_5 ((by rw [hn]; exact nI_ge c (by omega)))) (fun c_5 => ?_)
    refine hv_aload_n dX12_byteAt_8 rfl ?_
    refine hv_getr dX12_byteAt_9 fl_X12_17 (by first | rfl | assumption) rfl (by first | rfl | assumption) ?_
    refine hv_iload_n dX12_byteAt_12 rfl ?_
    refine hv_bald dX12_byteAt_13 (by first | rfl | assumption) rfl (by first | assumption | omega) (by first | decide | assumption) ?_
    refine hv_sipush (v := 255) dX12_byteAt_14 (by decide) ?_
    rw [hf p c]
    refine hv_iand dX12_byteAt_17 ?_
    rw [bN_eq]
    refine hv_goto (tgt := 22) dX12_byteAt_18 (by decide) ?_
    refine hv_iret dX12_byteAt_22 rfl ?_
    exact ⟨rfl, rfl, rfl, rfl⟩
  · rw [show bzI f n p = 0 from if_neg c]
    refine hv_iload_n dX12_byteAt_0 rfl ?_
    refine hv_aload_n dX12_byteAt_1 rfl ?_
    refine hv_geti dX12_byteAt_2 fl_X12_172 (by first | rfl | assumption) rfl ?_
    refine hv_icmp_ge (tgt := 21) dX12_byteAt_5 (by decide) (fun c_5 => ?_) (fun c_5 => absurd ((by rw [hn]; exact nI_le (by omega) (by omega))) c_5)
    refine hv_iconst (v := 0) dX12_byteAt_21 (by decide) ?_
    refine hv_iret dX12_byteAt_22 rfl ?_
    exact ⟨rfl, rfl, rfl, rfl⟩
theorem d_isLetter {v : Int32} {r : hR} : hCal G (m_X12_isLetter (hEq (some (.int (bI (inI 97 122 v)))) r σ τ)) [.int v] shp r σ τ := by
  refine hv_enter pn_X12 rfl ?_
  refine hv_iload_n dX12_isLetter_0 rfl ?_
  refine hv_bipush (v := 97) dX12_isLetter_1 (by decide) ?_
  refine hv_icmp_lt (tgt := 16) dX12_isLetter_3 (by decide) (fun c_3 => ?_) (fun c_3 => ?_)
  · refine hv_iconst (v := 0) dX12_isLetter_16 (by decide) ?_
    refine hv_zret dX12_isLetter_17 rfl (by first | exact Or.inl rfl | exact Or.inr rfl | assumption) ?_
    first
      | (rw [show inI 97 122 v = true from decide_eq_true ⟨Int32.not_lt.mp c_3, Int32.not_lt.mp c_9⟩]; exact ⟨rfl, rfl, rfl, rfl⟩)
      | (rw [show inI 97 122 v = false from decide_eq_false (fun q => Int32.not_lt.mpr q.2 c_9)]; exact ⟨rfl, rfl, rfl, rfl⟩)
      | (rw [show inI 97 122 v = false from decide_eq_false (fun q => Int32.not_lt.mpr q.1 c_3)]; exact ⟨rfl, rfl, rfl, rfl⟩)
  · refine hv_iload_n dX12_isLetter_6 rfl ?_
    refine hv_bipush (v := 122) dX12_isLetter_7 (by decide) ?_
    refine hv_icmp_gt (tgt := 16) dX12_isLetter_9 (by decide) (fun c_9 => ?_) (fun c_9 => ?_)
    · refine hv_iconst (v := 0) dX12_isLetter_16 (by decide) ?_
      refine hv_zret dX12_isLetter_17 rfl (by first | exact Or.inl rfl | exact Or.inr rfl | assumption) ?_
      first
        | (rw [show inI 97 122 v = true from decide_eq_true ⟨Int32.not_lt.mp c_3, Int32.not_lt.mp c_9⟩]; exact ⟨rfl, rfl, rfl, rfl⟩)
        | (rw [show inI 97 122 v = false from decide_eq_false (fun q => Int32.not_lt.mpr q.2 c_9)]; exact ⟨rfl, rfl, rfl, rfl⟩)
        | (rw [show inI 97 122 v = false from decide_eq_false (fun q => Int32.not_lt.mpr q.1 c_3)]; exact ⟨rfl, rfl, rfl, rfl⟩)
    · refine hv_iconst (v := 1) dX12_isLetter_12 (by decide) ?_
      refine hv_goto (tgt := 17) dX12_isLetter_13 (by decide) ?_
      refine hv_zret dX12_isLetter_17 rfl (by first | exact Or.inl rfl | exact Or.inr rfl | assumption) ?_
      first
        | (rw [show inI 97 122 v = true from decide_eq_true ⟨Int32.not_lt.mp c_3, Int32.not_lt.mp c_9⟩]; exact ⟨rfl, rfl, rfl, rfl⟩)
        | (rw [show inI 97 122 v = false from decide_eq_false (fun q => Int32.not_lt.mpr q.2 c_9)]; exact ⟨rfl, rfl, rfl, rfl⟩)
        | (rw [show inI 97 122 v = false from decide_eq_false (fun q => Int32.not_lt.mpr q.1 c_3)]; exact ⟨rfl, rfl, rfl, rfl⟩)
theorem d_isDigit {v : Int32} {r : hR} : hCal G (m_X12_isDigit (hEq (some (.int (bI (inI 48 57 v)))) r σ τ)) [.int v] shp r σ τ := by
  refine hv_enter pn_X12 rfl ?_
  refine hv_iload_n dX12_isDigit_0 rfl ?_
  refine hv_bipush (v := 48) dX12_isDigit_1 (by decide) ?_
  refine hv_icmp_lt (tgt := 16) dX12_isDigit_3 (by decide) (fun c_3 => ?_) (fun c_3 => ?_)
  · refine hv_iconst (v := 0) dX12_isDigit_16 (by decide) ?_
    refine hv_zret dX12_isDigit_17 rfl (by first | exact Or.inl rfl | exact Or.inr rfl | assumption) ?_
    first
      | (rw [show inI 48 57 v = true from decide_eq_true ⟨Int32.not_lt.mp c_3, Int32.not_lt.mp c_9⟩]; exact ⟨rfl, rfl, rfl, rfl⟩)
      | (rw [show inI 48 57 v = false from decide_eq_false (fun q => Int32.not_lt.mpr q.2 c_9)]; exact ⟨rfl, rfl, rfl, rfl⟩)
      | (rw [show inI 48 57 v = false from decide_eq_false (fun q => Int32.not_lt.mpr q.1 c_3)]; exact ⟨rfl, rfl, rfl, rfl⟩)
  · refine hv_iload_n dX12_isDigit_6 rfl ?_
    refine hv_bipush (v := 57) dX12_isDigit_7 (by decide) ?_
    refine hv_icmp_gt (tgt := 16) dX12_isDigit_9 (by decide) (fun c_9 => ?_) (fun c_9 => ?_)
    · refine hv_iconst (v := 0) dX12_isDigit_16 (by decide) ?_
      refine hv_zret dX12_isDigit_17 rfl (by first | exact Or.inl rfl | exact Or.inr rfl | assumption) ?_
      first
        | (rw [show inI 48 57 v = true from decide_eq_true ⟨Int32.not_lt.mp c_3, Int32.not_lt.mp c_9⟩]; exact ⟨rfl, rfl, rfl, rfl⟩)
        | (rw [show inI 48 57 v = false from decide_eq_false (fun q => Int32.not_lt.mpr q.2 c_9)]; exact ⟨rfl, rfl, rfl, rfl⟩)
        | (rw [show inI 48 57 v = false from decide_eq_false (fun q => Int32.not_lt.mpr q.1 c_3)]; exact ⟨rfl, rfl, rfl, rfl⟩)
    · refine hv_iconst (v := 1) dX12_isDigit_12 (by decide) ?_
      refine hv_goto (tgt := 17) dX12_isDigit_13 (by decide) ?_
      refine hv_zret dX12_isDigit_17 rfl (by first | exact Or.inl rfl | exact Or.inr rfl | assumption) ?_
      first
        | (rw [show inI 48 57 v = true from decide_eq_true ⟨Int32.not_lt.mp c_3, Int32.not_lt.mp c_9⟩]; exact ⟨rfl, rfl, rfl, rfl⟩)
        | (rw [show inI 48 57 v = false from decide_eq_false (fun q => Int32.not_lt.mpr q.2 c_9)]; exact ⟨rfl, rfl, rfl, rfl⟩)
        | (rw [show inI 48 57 v = false from decide_eq_false (fun q => Int32.not_lt.mpr q.1 c_3)]; exact ⟨rfl, rfl, rfl, rfl⟩)
theorem d_appends {d c : Nat} {r : hR} (hc : c = 0 ∨ (97 ≤ c ∧ c ≤ 122)) : hCal G (m_X12_appends (hEq (some (.long (lN (apN d c)))) r σ τ)) [.long (lN d), .int (nI c)] shp r σ τ := by
  refine hv_enter pn_X12 rfl ?_
  rcases hc with rfl | ⟨c1, c2⟩
  · rw [show apN d 0 = d from if_pos rfl]
    refine hv_iload_n dX12_appends_0 rfl ?_
    refine hv_if_ne (tgt := 8) dX12_appends_1 (by decide) (fun c_1 => absurd (rfl) c_1) (fun c_1 => ?_)
    refine hv_lload_n dX12_appends_4 rfl ?_
    refine hv_goto (tgt := 21) dX12_appends_5 (by decide) ?_
    refine hv_lret dX12_appends_21 rfl ?_
    exact ⟨rfl, rfl, rfl, rfl⟩
  · rw [show apN d c = 27 * d + (c - 96) from if_neg (by omega)]
    refine hv_iload_n dX12_appends_0 rfl ?_
    refine hv_if_ne (tgt := 8) dX12_appends_1 (by decide) (fun c_1 => ?_) (fun c_1 => absurd c_1 ((nI_ne0 (by omega) (by omega))))
    refine hv_ldc2 dX12_appends_8 cn_X12_175 ?_
    refine hv_lload_n dX12_appends_11 rfl ?_
    refine hv_lmul dX12_appends_12 ?_
    rw [show (27 : Int64) * lN d = lN (27 * d) from lN_mul 27 d]
    refine hv_iload_n dX12_appends_13 rfl ?_
    refine hv_bipush (v := 97) dX12_appends_14 (by decide) ?_
    refine hv_isub dX12_appends_16 ?_
    rw [show nI c - 97 = nI (c - 97) from pk_sub (b := 97) c1]
    refine hv_iconst (v := 1) dX12_appends_17 (by decide) ?_
    refine hv_iadd dX12_appends_18 ?_
    rw [nI_1, show c - 97 + 1 = c - 96 by omega]
    refine hv_i2l dX12_appends_19 ?_
    rw [nI_l (by omega)]
    refine hv_ladd dX12_appends_20 ?_
    rw [lN_add]
    refine hv_lret dX12_appends_21 rfl ?_
    exact ⟨rfl, rfl, rfl, rfl⟩
def pTk (m : Nat) (k p v : Int32) (nm : Int64) (σ : hS) (τ : hT) (σ' : hS) (τ' : hT) : Prop := σ' 67 = upd (σ 67) m k ∧ σ' 68 = upd (σ 68) m p ∧ σ' 69 = upd (σ 69) m v ∧ τ' 70 = vp_updL (τ 70) m nm ∧ σ' 64 = upd (σ 64) 10 (nI (m + 1))
theorem d_token {m : Nat} {k p v : Int32} {nm : Int64} (hm : σ 64 10 = nI m) (hm2 : m ≤ 402) : hCal G (m_X12_token (hQt [64, 67, 68, 69] [70] none (rr 38 51 x y) σ τ (pTk m k p v nm σ τ))) [.ref (hgA G 64), .int k, .int p, .int v, .long nm] shp (rr 38 51 x y) σ τ := by
  refine hv_enter pn_X12 rfl ?_
  refine hv_aload_n dX12_token_0 rfl ?_
  refine hv_getr dX12_token_1 fl_X12_20 (by first | rfl | assumption) rfl (by first | rfl | assumption) ?_
  refine hv_aload_n dX12_token_4 rfl ?_
  refine hv_geti dX12_token_5 fl_X12_181 (by first | rfl | assumption) rfl ?_
  refine hv_iload_n dX12_token_8 rfl ?_
  refine hv_iast dX12_token_9 (by first | rfl | assumption) (j := m) hm (by omega) (by first | decide | assumption) ?_
  refine hv_aload_n dX12_token_10 rfl ?_
  refine hv_getr dX12_token_11 fl_X12_24 (by first | rfl | assumption) rfl (by first | rfl | assumption) ?_
  refine hv_aload_n dX12_token_14 rfl ?_
  refine hv_geti dX12_token_15 fl_X12_181 (by first | rfl | assumption) rfl ?_
  refine hv_iload_n dX12_token_18 rfl ?_
  refine hv_iast dX12_token_19 (by first | rfl | assumption) (j := m) hm (by omega) (by first | decide | assumption) ?_
  refine hv_aload_n dX12_token_20 rfl ?_
  refine hv_getr dX12_token_21 fl_X12_27 (by first | rfl | assumption) rfl (by first | rfl | assumption) ?_
  refine hv_aload_n dX12_token_24 rfl ?_
  refine hv_geti dX12_token_25 fl_X12_181 (by first | rfl | assumption) rfl ?_
  refine hv_iload_n dX12_token_28 rfl ?_
  refine hv_iast dX12_token_29 (by first | rfl | assumption) (j := m) hm (by omega) (by first | decide | assumption) ?_
  refine hv_aload_n dX12_token_30 rfl ?_
  refine hv_getr dX12_token_31 fl_X12_30 (by first | rfl | assumption) rfl (by first | rfl | assumption) ?_
  refine hv_aload_n dX12_token_34 rfl ?_
  refine hv_geti dX12_token_35 fl_X12_181 (by first | rfl | assumption) rfl ?_
  refine hv_lload dX12_token_38 rfl ?_
  refine hv_last dX12_token_40 (by first | rfl | assumption) (j := m) hm (by omega) (by first | decide | assumption) ?_
  refine hv_aload_n dX12_token_41 rfl ?_
  refine hv_dup dX12_token_42 rfl ?_
  refine hv_geti dX12_token_43 fl_X12_181 (by first | rfl | assumption) rfl ?_
  rw [hva_ne (show 64 ≠ 69 by decide), hva_ne (show 64 ≠ 68 by decide), hva_ne (show 64 ≠ 67 by decide), hm]
  refine hv_iconst (v := 1) dX12_token_46 (by decide) ?_
  refine hv_iadd dX12_token_47 ?_
  rw [nI_1]
  refine hv_puti dX12_token_48 fl_X12_181 (by first | rfl | assumption) rfl rfl rfl ?_
  refine hv_vret dX12_token_51 rfl ?_
  refine ⟨rfl, rfl, off_up (off_up (off_up (off_up (fun _ _ => rfl) (by decide)) (by decide)) (by decide)) (by decide), fun k hk => hva_ne (by simpa using hk), ?_, ?_, ?_, hup_eq, ?_⟩
  all_goals simp [va_up]
theorem d_sign {m b : Nat} {p d : Int32} (hb : b < 256) (hm : σ 64 10 = nI m) (hm2 : m ≤ 402) : hCal G (m_X12_sign (hQt [64, 67, 68, 69] [70] (some (.int 1)) (rr 38 51 x y) σ τ (pTk m (nI (kap (sgn b))) p 0 0 σ τ))) [.ref (hgA G 64), .int p, .int (nI b), .int d] shp (rr 38 51 x y) σ τ := by
  have hk := kap_sgn b hb
  obtain ⟨K, hK⟩ : ∃ K, kap (sgn b) = K := ⟨_, rfl⟩
  rw [hK] at hk
  rw [hK]
  refine hv_enter pn_X12 rfl ?_
  have tail : hV G (m_X12_sign (hQt [64, 67, 68, 69] [70] (some (.int 1)) (rr 38 51 x y) σ τ (pTk m (nI K) p 0 0 σ τ))) 0 0 shp 95 [some (.ref (hgA G 64)), some (.int p), some (.int (nI b)), some (.int d), some (.int (nI K))] [] (rr 38 51 x y) σ τ := by
    refine hv_aload_n dX12_sign_95 rfl ?_
    refine hv_iload dX12_sign_96 rfl ?_
    refine hv_iload_n dX12_sign_98 rfl ?_
    refine hv_iconst (v := 0) dX12_sign_99 (by decide) ?_
    refine hv_lconst (v := 0) dX12_sign_100 (by decide) ?_
    refine hv_cv4 (d_token hm hm2) dX12_sign_101 ml_X12_188 mk_X12_token (by first | rfl | assumption) rfl rfl rfl rfl rfl ?_
    rintro _ _ σ1 τ1 ⟨rfl, rfl, q1, q2, q3⟩
    refine hv_iconst (v := 1) dX12_sign_104 (by decide) ?_
    refine hv_iret dX12_sign_105 rfl ?_
    exact ⟨rfl, rfl, q1, q2, q3⟩
  by_cases h59 : b = 59
  · subst h59
    obtain rfl : K = 4 := hk
    refine hv_iload_n dX12_sign_0 rfl ?_
    refine hv_bipush (v := 59) dX12_sign_1 (by decide) ?_
    refine hv_icmp_ne (tgt := 10) dX12_sign_3 (by decide) (fun c_3 => absurd (rfl) c_3) (fun c_3 => ?_)
    refine hv_iconst (v := 4) dX12_sign_6 (by decide) ?_
    refine hv_goto (tgt := 43) dX12_sign_7 (by decide) ?_
    refine hv_istore dX12_sign_43 rfl rfl ?_
    refine hv_iload_n dX12_sign_45 rfl ?_
    refine hv_bipush (v := 43) dX12_sign_46 (by decide) ?_
    refine hv_icmp_ne (tgt := 55) dX12_sign_48 (by decide) (fun c_48 => ?_) (fun c_48 => absurd c_48 ((by decide)))
    refine hv_iload_n dX12_sign_55 rfl ?_
    refine hv_bipush (v := 45) dX12_sign_56 (by decide) ?_
    refine hv_icmp_ne (tgt := 65) dX12_sign_58 (by decide) (fun c_58 => ?_) (fun c_58 => absurd c_58 ((by decide)))
    refine hv_iload_n dX12_sign_65 rfl ?_
    refine hv_bipush (v := 42) dX12_sign_66 (by decide) ?_
    refine hv_icmp_ne (tgt := 75) dX12_sign_68 (by decide) (fun c_68 => ?_) (fun c_68 => absurd c_68 ((by decide)))
    refine hv_iload_n dX12_sign_75 rfl ?_
    refine hv_bipush (v := 47) dX12_sign_76 (by decide) ?_
    refine hv_icmp_ne (tgt := 85) dX12_sign_78 (by decide) (fun c_78 => ?_) (fun c_78 => absurd c_78 ((by decide)))
    refine hv_iload_n dX12_sign_85 rfl ?_
    refine hv_bipush (v := 60) dX12_sign_86 (by decide) ?_
    refine hv_icmp_ne (tgt := 95) dX12_sign_88 (by decide) (fun c_88 => ?_) (fun c_88 => absurd c_88 ((by decide)))
    exact tail
  by_cases h61 : b = 61
  · subst h61
    obtain rfl : K = 5 := hk
    refine hv_iload_n dX12_sign_0 rfl ?_
    refine hv_bipush (v := 59) dX12_sign_1 (by decide) ?_
    refine hv_icmp_ne (tgt := 10) dX12_sign_3 (by decide) (fun c_3 => ?_) (fun c_3 => absurd c_3 ((by decide)))
    refine hv_iload_n dX12_sign_10 rfl ?_
    refine hv_bipush (v := 61) dX12_sign_11 (by decide) ?_
    refine hv_icmp_ne (tgt := 20) dX12_sign_13 (by decide) (fun c_13 => absurd (rfl) c_13) (fun c_13 => ?_)
    refine hv_iconst (v := 5) dX12_sign_16 (by decide) ?_
    refine hv_goto (tgt := 43) dX12_sign_17 (by decide) ?_
    refine hv_istore dX12_sign_43 rfl rfl ?_
    refine hv_iload_n dX12_sign_45 rfl ?_
    refine hv_bipush (v := 43) dX12_sign_46 (by decide) ?_
    refine hv_icmp_ne (tgt := 55) dX12_sign_48 (by decide) (fun c_48 => ?_) (fun c_48 => absurd c_48 ((by decide)))
    refine hv_iload_n dX12_sign_55 rfl ?_
    refine hv_bipush (v := 45) dX12_sign_56 (by decide) ?_
    refine hv_icmp_ne (tgt := 65) dX12_sign_58 (by decide) (fun c_58 => ?_) (fun c_58 => absurd c_58 ((by decide)))
    refine hv_iload_n dX12_sign_65 rfl ?_
    refine hv_bipush (v := 42) dX12_sign_66 (by decide) ?_
    refine hv_icmp_ne (tgt := 75) dX12_sign_68 (by decide) (fun c_68 => ?_) (fun c_68 => absurd c_68 ((by decide)))
    refine hv_iload_n dX12_sign_75 rfl ?_
    refine hv_bipush (v := 47) dX12_sign_76 (by decide) ?_
    refine hv_icmp_ne (tgt := 85) dX12_sign_78 (by decide) (fun c_78 => ?_) (fun c_78 => absurd c_78 ((by decide)))
    refine hv_iload_n dX12_sign_85 rfl ?_
    refine hv_bipush (v := 60) dX12_sign_86 (by decide) ?_
    refine hv_icmp_ne (tgt := 95) dX12_sign_88 (by decide) (fun c_88 => ?_) (fun c_88 => absurd c_88 ((by decide)))
    exact tail
  by_cases h40 : b = 40
  · subst h40
    obtain rfl : K = 6 := hk
    refine hv_iload_n dX12_sign_0 rfl ?_
    refine hv_bipush (v := 59) dX12_sign_1 (by decide) ?_
    refine hv_icmp_ne (tgt := 10) dX12_sign_3 (by decide) (fun c_3 => ?_) (fun c_3 => absurd c_3 ((by decide)))
    refine hv_iload_n dX12_sign_10 rfl ?_
    refine hv_bipush (v := 61) dX12_sign_11 (by decide) ?_
    refine hv_icmp_ne (tgt := 20) dX12_sign_13 (by decide) (fun c_13 => ?_) (fun c_13 => absurd c_13 ((by decide)))
    refine hv_iload_n dX12_sign_20 rfl ?_
    refine hv_bipush (v := 40) dX12_sign_21 (by decide) ?_
    refine hv_icmp_ne (tgt := 31) dX12_sign_23 (by decide) (fun c_23 => absurd (rfl) c_23) (fun c_23 => ?_)
    refine hv_bipush (v := 6) dX12_sign_26 (by decide) ?_
    refine hv_goto (tgt := 43) dX12_sign_28 (by decide) ?_
    refine hv_istore dX12_sign_43 rfl rfl ?_
    refine hv_iload_n dX12_sign_45 rfl ?_
    refine hv_bipush (v := 43) dX12_sign_46 (by decide) ?_
    refine hv_icmp_ne (tgt := 55) dX12_sign_48 (by decide) (fun c_48 => ?_) (fun c_48 => absurd c_48 ((by decide)))
    refine hv_iload_n dX12_sign_55 rfl ?_
    refine hv_bipush (v := 45) dX12_sign_56 (by decide) ?_
    refine hv_icmp_ne (tgt := 65) dX12_sign_58 (by decide) (fun c_58 => ?_) (fun c_58 => absurd c_58 ((by decide)))
    refine hv_iload_n dX12_sign_65 rfl ?_
    refine hv_bipush (v := 42) dX12_sign_66 (by decide) ?_
    refine hv_icmp_ne (tgt := 75) dX12_sign_68 (by decide) (fun c_68 => ?_) (fun c_68 => absurd c_68 ((by decide)))
    refine hv_iload_n dX12_sign_75 rfl ?_
    refine hv_bipush (v := 47) dX12_sign_76 (by decide) ?_
    refine hv_icmp_ne (tgt := 85) dX12_sign_78 (by decide) (fun c_78 => ?_) (fun c_78 => absurd c_78 ((by decide)))
    refine hv_iload_n dX12_sign_85 rfl ?_
    refine hv_bipush (v := 60) dX12_sign_86 (by decide) ?_
    refine hv_icmp_ne (tgt := 95) dX12_sign_88 (by decide) (fun c_88 => ?_) (fun c_88 => absurd c_88 ((by decide)))
    exact tail
  by_cases h41 : b = 41
  · subst h41
    obtain rfl : K = 7 := hk
    refine hv_iload_n dX12_sign_0 rfl ?_
    refine hv_bipush (v := 59) dX12_sign_1 (by decide) ?_
    refine hv_icmp_ne (tgt := 10) dX12_sign_3 (by decide) (fun c_3 => ?_) (fun c_3 => absurd c_3 ((by decide)))
    refine hv_iload_n dX12_sign_10 rfl ?_
    refine hv_bipush (v := 61) dX12_sign_11 (by decide) ?_
    refine hv_icmp_ne (tgt := 20) dX12_sign_13 (by decide) (fun c_13 => ?_) (fun c_13 => absurd c_13 ((by decide)))
    refine hv_iload_n dX12_sign_20 rfl ?_
    refine hv_bipush (v := 40) dX12_sign_21 (by decide) ?_
    refine hv_icmp_ne (tgt := 31) dX12_sign_23 (by decide) (fun c_23 => ?_) (fun c_23 => absurd c_23 ((by decide)))
    refine hv_iload_n dX12_sign_31 rfl ?_
    refine hv_bipush (v := 41) dX12_sign_32 (by decide) ?_
    refine hv_icmp_ne (tgt := 42) dX12_sign_34 (by decide) (fun c_34 => absurd (rfl) c_34) (fun c_34 => ?_)
    refine hv_bipush (v := 7) dX12_sign_37 (by decide) ?_
    refine hv_goto (tgt := 43) dX12_sign_39 (by decide) ?_
    refine hv_istore dX12_sign_43 rfl rfl ?_
    refine hv_iload_n dX12_sign_45 rfl ?_
    refine hv_bipush (v := 43) dX12_sign_46 (by decide) ?_
    refine hv_icmp_ne (tgt := 55) dX12_sign_48 (by decide) (fun c_48 => ?_) (fun c_48 => absurd c_48 ((by decide)))
    refine hv_iload_n dX12_sign_55 rfl ?_
    refine hv_bipush (v := 45) dX12_sign_56 (by decide) ?_
    refine hv_icmp_ne (tgt := 65) dX12_sign_58 (by decide) (fun c_58 => ?_) (fun c_58 => absurd c_58 ((by decide)))
    refine hv_iload_n dX12_sign_65 rfl ?_
    refine hv_bipush (v := 42) dX12_sign_66 (by decide) ?_
    refine hv_icmp_ne (tgt := 75) dX12_sign_68 (by decide) (fun c_68 => ?_) (fun c_68 => absurd c_68 ((by decide)))
    refine hv_iload_n dX12_sign_75 rfl ?_
    refine hv_bipush (v := 47) dX12_sign_76 (by decide) ?_
    refine hv_icmp_ne (tgt := 85) dX12_sign_78 (by decide) (fun c_78 => ?_) (fun c_78 => absurd c_78 ((by decide)))
    refine hv_iload_n dX12_sign_85 rfl ?_
    refine hv_bipush (v := 60) dX12_sign_86 (by decide) ?_
    refine hv_icmp_ne (tgt := 95) dX12_sign_88 (by decide) (fun c_88 => ?_) (fun c_88 => absurd c_88 ((by decide)))
    exact tail
  by_cases h43 : b = 43
  · subst h43
    obtain rfl : K = 8 := hk
    refine hv_iload_n dX12_sign_0 rfl ?_
    refine hv_bipush (v := 59) dX12_sign_1 (by decide) ?_
    refine hv_icmp_ne (tgt := 10) dX12_sign_3 (by decide) (fun c_3 => ?_) (fun c_3 => absurd c_3 ((by decide)))
    refine hv_iload_n dX12_sign_10 rfl ?_
    refine hv_bipush (v := 61) dX12_sign_11 (by decide) ?_
    refine hv_icmp_ne (tgt := 20) dX12_sign_13 (by decide) (fun c_13 => ?_) (fun c_13 => absurd c_13 ((by decide)))
    refine hv_iload_n dX12_sign_20 rfl ?_
    refine hv_bipush (v := 40) dX12_sign_21 (by decide) ?_
    refine hv_icmp_ne (tgt := 31) dX12_sign_23 (by decide) (fun c_23 => ?_) (fun c_23 => absurd c_23 ((by decide)))
    refine hv_iload_n dX12_sign_31 rfl ?_
    refine hv_bipush (v := 41) dX12_sign_32 (by decide) ?_
    refine hv_icmp_ne (tgt := 42) dX12_sign_34 (by decide) (fun c_34 => ?_) (fun c_34 => absurd c_34 ((by decide)))
    refine hv_iconst (v := 3) dX12_sign_42 (by decide) ?_
    refine hv_istore dX12_sign_43 rfl rfl ?_
    refine hv_iload_n dX12_sign_45 rfl ?_
    refine hv_bipush (v := 43) dX12_sign_46 (by decide) ?_
    refine hv_icmp_ne (tgt := 55) dX12_sign_48 (by decide) (fun c_48 => absurd (rfl) c_48) (fun c_48 => ?_)
    refine hv_bipush (v := 8) dX12_sign_51 (by decide) ?_
    refine hv_istore dX12_sign_53 rfl rfl ?_
    refine hv_iload_n dX12_sign_55 rfl ?_
    refine hv_bipush (v := 45) dX12_sign_56 (by decide) ?_
    refine hv_icmp_ne (tgt := 65) dX12_sign_58 (by decide) (fun c_58 => ?_) (fun c_58 => absurd c_58 ((by decide)))
    refine hv_iload_n dX12_sign_65 rfl ?_
    refine hv_bipush (v := 42) dX12_sign_66 (by decide) ?_
    refine hv_icmp_ne (tgt := 75) dX12_sign_68 (by decide) (fun c_68 => ?_) (fun c_68 => absurd c_68 ((by decide)))
    refine hv_iload_n dX12_sign_75 rfl ?_
    refine hv_bipush (v := 47) dX12_sign_76 (by decide) ?_
    refine hv_icmp_ne (tgt := 85) dX12_sign_78 (by decide) (fun c_78 => ?_) (fun c_78 => absurd c_78 ((by decide)))
    refine hv_iload_n dX12_sign_85 rfl ?_
    refine hv_bipush (v := 60) dX12_sign_86 (by decide) ?_
    refine hv_icmp_ne (tgt := 95) dX12_sign_88 (by decide) (fun c_88 => ?_) (fun c_88 => absurd c_88 ((by decide)))
    exact tail
  by_cases h45 : b = 45
  · subst h45
    obtain rfl : K = 9 := hk
    refine hv_iload_n dX12_sign_0 rfl ?_
    refine hv_bipush (v := 59) dX12_sign_1 (by decide) ?_
    refine hv_icmp_ne (tgt := 10) dX12_sign_3 (by decide) (fun c_3 => ?_) (fun c_3 => absurd c_3 ((by decide)))
    refine hv_iload_n dX12_sign_10 rfl ?_
    refine hv_bipush (v := 61) dX12_sign_11 (by decide) ?_
    refine hv_icmp_ne (tgt := 20) dX12_sign_13 (by decide) (fun c_13 => ?_) (fun c_13 => absurd c_13 ((by decide)))
    refine hv_iload_n dX12_sign_20 rfl ?_
    refine hv_bipush (v := 40) dX12_sign_21 (by decide) ?_
    refine hv_icmp_ne (tgt := 31) dX12_sign_23 (by decide) (fun c_23 => ?_) (fun c_23 => absurd c_23 ((by decide)))
    refine hv_iload_n dX12_sign_31 rfl ?_
    refine hv_bipush (v := 41) dX12_sign_32 (by decide) ?_
    refine hv_icmp_ne (tgt := 42) dX12_sign_34 (by decide) (fun c_34 => ?_) (fun c_34 => absurd c_34 ((by decide)))
    refine hv_iconst (v := 3) dX12_sign_42 (by decide) ?_
    refine hv_istore dX12_sign_43 rfl rfl ?_
    refine hv_iload_n dX12_sign_45 rfl ?_
    refine hv_bipush (v := 43) dX12_sign_46 (by decide) ?_
    refine hv_icmp_ne (tgt := 55) dX12_sign_48 (by decide) (fun c_48 => ?_) (fun c_48 => absurd c_48 ((by decide)))
    refine hv_iload_n dX12_sign_55 rfl ?_
    refine hv_bipush (v := 45) dX12_sign_56 (by decide) ?_
    refine hv_icmp_ne (tgt := 65) dX12_sign_58 (by decide) (fun c_58 => absurd (rfl) c_58) (fun c_58 => ?_)
    refine hv_bipush (v := 9) dX12_sign_61 (by decide) ?_
    refine hv_istore dX12_sign_63 rfl rfl ?_
    refine hv_iload_n dX12_sign_65 rfl ?_
    refine hv_bipush (v := 42) dX12_sign_66 (by decide) ?_
    refine hv_icmp_ne (tgt := 75) dX12_sign_68 (by decide) (fun c_68 => ?_) (fun c_68 => absurd c_68 ((by decide)))
    refine hv_iload_n dX12_sign_75 rfl ?_
    refine hv_bipush (v := 47) dX12_sign_76 (by decide) ?_
    refine hv_icmp_ne (tgt := 85) dX12_sign_78 (by decide) (fun c_78 => ?_) (fun c_78 => absurd c_78 ((by decide)))
    refine hv_iload_n dX12_sign_85 rfl ?_
    refine hv_bipush (v := 60) dX12_sign_86 (by decide) ?_
    refine hv_icmp_ne (tgt := 95) dX12_sign_88 (by decide) (fun c_88 => ?_) (fun c_88 => absurd c_88 ((by decide)))
    exact tail
  by_cases h42 : b = 42
  · subst h42
    obtain rfl : K = 10 := hk
    refine hv_iload_n dX12_sign_0 rfl ?_
    refine hv_bipush (v := 59) dX12_sign_1 (by decide) ?_
    refine hv_icmp_ne (tgt := 10) dX12_sign_3 (by decide) (fun c_3 => ?_) (fun c_3 => absurd c_3 ((by decide)))
    refine hv_iload_n dX12_sign_10 rfl ?_
    refine hv_bipush (v := 61) dX12_sign_11 (by decide) ?_
    refine hv_icmp_ne (tgt := 20) dX12_sign_13 (by decide) (fun c_13 => ?_) (fun c_13 => absurd c_13 ((by decide)))
    refine hv_iload_n dX12_sign_20 rfl ?_
    refine hv_bipush (v := 40) dX12_sign_21 (by decide) ?_
    refine hv_icmp_ne (tgt := 31) dX12_sign_23 (by decide) (fun c_23 => ?_) (fun c_23 => absurd c_23 ((by decide)))
    refine hv_iload_n dX12_sign_31 rfl ?_
    refine hv_bipush (v := 41) dX12_sign_32 (by decide) ?_
    refine hv_icmp_ne (tgt := 42) dX12_sign_34 (by decide) (fun c_34 => ?_) (fun c_34 => absurd c_34 ((by decide)))
    refine hv_iconst (v := 3) dX12_sign_42 (by decide) ?_
    refine hv_istore dX12_sign_43 rfl rfl ?_
    refine hv_iload_n dX12_sign_45 rfl ?_
    refine hv_bipush (v := 43) dX12_sign_46 (by decide) ?_
    refine hv_icmp_ne (tgt := 55) dX12_sign_48 (by decide) (fun c_48 => ?_) (fun c_48 => absurd c_48 ((by decide)))
    refine hv_iload_n dX12_sign_55 rfl ?_
    refine hv_bipush (v := 45) dX12_sign_56 (by decide) ?_
    refine hv_icmp_ne (tgt := 65) dX12_sign_58 (by decide) (fun c_58 => ?_) (fun c_58 => absurd c_58 ((by decide)))
    refine hv_iload_n dX12_sign_65 rfl ?_
    refine hv_bipush (v := 42) dX12_sign_66 (by decide) ?_
    refine hv_icmp_ne (tgt := 75) dX12_sign_68 (by decide) (fun c_68 => absurd (rfl) c_68) (fun c_68 => ?_)
    refine hv_bipush (v := 10) dX12_sign_71 (by decide) ?_
    refine hv_istore dX12_sign_73 rfl rfl ?_
    refine hv_iload_n dX12_sign_75 rfl ?_
    refine hv_bipush (v := 47) dX12_sign_76 (by decide) ?_
    refine hv_icmp_ne (tgt := 85) dX12_sign_78 (by decide) (fun c_78 => ?_) (fun c_78 => absurd c_78 ((by decide)))
    refine hv_iload_n dX12_sign_85 rfl ?_
    refine hv_bipush (v := 60) dX12_sign_86 (by decide) ?_
    refine hv_icmp_ne (tgt := 95) dX12_sign_88 (by decide) (fun c_88 => ?_) (fun c_88 => absurd c_88 ((by decide)))
    exact tail
  by_cases h47 : b = 47
  · subst h47
    obtain rfl : K = 15 := hk
    refine hv_iload_n dX12_sign_0 rfl ?_
    refine hv_bipush (v := 59) dX12_sign_1 (by decide) ?_
    refine hv_icmp_ne (tgt := 10) dX12_sign_3 (by decide) (fun c_3 => ?_) (fun c_3 => absurd c_3 ((by decide)))
    refine hv_iload_n dX12_sign_10 rfl ?_
    refine hv_bipush (v := 61) dX12_sign_11 (by decide) ?_
    refine hv_icmp_ne (tgt := 20) dX12_sign_13 (by decide) (fun c_13 => ?_) (fun c_13 => absurd c_13 ((by decide)))
    refine hv_iload_n dX12_sign_20 rfl ?_
    refine hv_bipush (v := 40) dX12_sign_21 (by decide) ?_
    refine hv_icmp_ne (tgt := 31) dX12_sign_23 (by decide) (fun c_23 => ?_) (fun c_23 => absurd c_23 ((by decide)))
    refine hv_iload_n dX12_sign_31 rfl ?_
    refine hv_bipush (v := 41) dX12_sign_32 (by decide) ?_
    refine hv_icmp_ne (tgt := 42) dX12_sign_34 (by decide) (fun c_34 => ?_) (fun c_34 => absurd c_34 ((by decide)))
    refine hv_iconst (v := 3) dX12_sign_42 (by decide) ?_
    refine hv_istore dX12_sign_43 rfl rfl ?_
    refine hv_iload_n dX12_sign_45 rfl ?_
    refine hv_bipush (v := 43) dX12_sign_46 (by decide) ?_
    refine hv_icmp_ne (tgt := 55) dX12_sign_48 (by decide) (fun c_48 => ?_) (fun c_48 => absurd c_48 ((by decide)))
    refine hv_iload_n dX12_sign_55 rfl ?_
    refine hv_bipush (v := 45) dX12_sign_56 (by decide) ?_
    refine hv_icmp_ne (tgt := 65) dX12_sign_58 (by decide) (fun c_58 => ?_) (fun c_58 => absurd c_58 ((by decide)))
    refine hv_iload_n dX12_sign_65 rfl ?_
    refine hv_bipush (v := 42) dX12_sign_66 (by decide) ?_
    refine hv_icmp_ne (tgt := 75) dX12_sign_68 (by decide) (fun c_68 => ?_) (fun c_68 => absurd c_68 ((by decide)))
    refine hv_iload_n dX12_sign_75 rfl ?_
    refine hv_bipush (v := 47) dX12_sign_76 (by decide) ?_
    refine hv_icmp_ne (tgt := 85) dX12_sign_78 (by decide) (fun c_78 => absurd (rfl) c_78) (fun c_78 => ?_)
    refine hv_bipush (v := 15) dX12_sign_81 (by decide) ?_
    refine hv_istore dX12_sign_83 rfl rfl ?_
    refine hv_iload_n dX12_sign_85 rfl ?_
    refine hv_bipush (v := 60) dX12_sign_86 (by decide) ?_
    refine hv_icmp_ne (tgt := 95) dX12_sign_88 (by decide) (fun c_88 => ?_) (fun c_88 => absurd c_88 ((by decide)))
    exact tail
  by_cases h60 : b = 60
  · subst h60
    obtain rfl : K = 13 := hk
    refine hv_iload_n dX12_sign_0 rfl ?_
    refine hv_bipush (v := 59) dX12_sign_1 (by decide) ?_
    refine hv_icmp_ne (tgt := 10) dX12_sign_3 (by decide) (fun c_3 => ?_) (fun c_3 => absurd c_3 ((by decide)))
    refine hv_iload_n dX12_sign_10 rfl ?_
    refine hv_bipush (v := 61) dX12_sign_11 (by decide) ?_
    refine hv_icmp_ne (tgt := 20) dX12_sign_13 (by decide) (fun c_13 => ?_) (fun c_13 => absurd c_13 ((by decide)))
    refine hv_iload_n dX12_sign_20 rfl ?_
    refine hv_bipush (v := 40) dX12_sign_21 (by decide) ?_
    refine hv_icmp_ne (tgt := 31) dX12_sign_23 (by decide) (fun c_23 => ?_) (fun c_23 => absurd c_23 ((by decide)))
    refine hv_iload_n dX12_sign_31 rfl ?_
    refine hv_bipush (v := 41) dX12_sign_32 (by decide) ?_
    refine hv_icmp_ne (tgt := 42) dX12_sign_34 (by decide) (fun c_34 => ?_) (fun c_34 => absurd c_34 ((by decide)))
    refine hv_iconst (v := 3) dX12_sign_42 (by decide) ?_
    refine hv_istore dX12_sign_43 rfl rfl ?_
    refine hv_iload_n dX12_sign_45 rfl ?_
    refine hv_bipush (v := 43) dX12_sign_46 (by decide) ?_
    refine hv_icmp_ne (tgt := 55) dX12_sign_48 (by decide) (fun c_48 => ?_) (fun c_48 => absurd c_48 ((by decide)))
    refine hv_iload_n dX12_sign_55 rfl ?_
    refine hv_bipush (v := 45) dX12_sign_56 (by decide) ?_
    refine hv_icmp_ne (tgt := 65) dX12_sign_58 (by decide) (fun c_58 => ?_) (fun c_58 => absurd c_58 ((by decide)))
    refine hv_iload_n dX12_sign_65 rfl ?_
    refine hv_bipush (v := 42) dX12_sign_66 (by decide) ?_
    refine hv_icmp_ne (tgt := 75) dX12_sign_68 (by decide) (fun c_68 => ?_) (fun c_68 => absurd c_68 ((by decide)))
    refine hv_iload_n dX12_sign_75 rfl ?_
    refine hv_bipush (v := 47) dX12_sign_76 (by decide) ?_
    refine hv_icmp_ne (tgt := 85) dX12_sign_78 (by decide) (fun c_78 => ?_) (fun c_78 => absurd c_78 ((by decide)))
    refine hv_iload_n dX12_sign_85 rfl ?_
    refine hv_bipush (v := 60) dX12_sign_86 (by decide) ?_
    refine hv_icmp_ne (tgt := 95) dX12_sign_88 (by decide) (fun c_88 => absurd (rfl) c_88) (fun c_88 => ?_)
    refine hv_bipush (v := 13) dX12_sign_91 (by decide) ?_
    refine hv_istore dX12_sign_93 rfl rfl ?_
    exact tail
  rw [if_neg h59, if_neg h61, if_neg h40, if_neg h41, if_neg h43, if_neg h45, if_neg h42, if_neg h47, if_neg h60] at hk
  subst hk
  refine hv_iload_n dX12_sign_0 rfl ?_
  refine hv_bipush (v := 59) dX12_sign_1 (by decide) ?_
  refine hv_icmp_ne (tgt := 10) dX12_sign_3 (by decide) (fun c_3 => ?_) (fun c_3 => absurd c_3 ((fun q => h59 ((nI_eq (b := 59) (by omega) (by decide)).mp q))))
  refine hv_iload_n dX12_sign_10 rfl ?_
  refine hv_bipush (v := 61) dX12_sign_11 (by decide) ?_
  refine hv_icmp_ne (tgt := 20) dX12_sign_13 (by decide) (fun c_13 => ?_) (fun c_13 => absurd c_13 ((fun q => h61 ((nI_eq (b := 61) (by omega) (by decide)).mp q))))
  refine hv_iload_n dX12_sign_20 rfl ?_
  refine hv_bipush (v := 40) dX12_sign_21 (by decide) ?_
  refine hv_icmp_ne (tgt := 31) dX12_sign_23 (by decide) (fun c_23 => ?_) (fun c_23 => absurd c_23 ((fun q => h40 ((nI_eq (b := 40) (by omega) (by decide)).mp q))))
  refine hv_iload_n dX12_sign_31 rfl ?_
  refine hv_bipush (v := 41) dX12_sign_32 (by decide) ?_
  refine hv_icmp_ne (tgt := 42) dX12_sign_34 (by decide) (fun c_34 => ?_) (fun c_34 => absurd c_34 ((fun q => h41 ((nI_eq (b := 41) (by omega) (by decide)).mp q))))
  refine hv_iconst (v := 3) dX12_sign_42 (by decide) ?_
  refine hv_istore dX12_sign_43 rfl rfl ?_
  refine hv_iload_n dX12_sign_45 rfl ?_
  refine hv_bipush (v := 43) dX12_sign_46 (by decide) ?_
  refine hv_icmp_ne (tgt := 55) dX12_sign_48 (by decide) (fun c_48 => ?_) (fun c_48 => absurd c_48 ((fun q => h43 ((nI_eq (b := 43) (by omega) (by decide)).mp q))))
  refine hv_iload_n dX12_sign_55 rfl ?_
  refine hv_bipush (v := 45) dX12_sign_56 (by decide) ?_
  refine hv_icmp_ne (tgt := 65) dX12_sign_58 (by decide) (fun c_58 => ?_) (fun c_58 => absurd c_58 ((fun q => h45 ((nI_eq (b := 45) (by omega) (by decide)).mp q))))
  refine hv_iload_n dX12_sign_65 rfl ?_
  refine hv_bipush (v := 42) dX12_sign_66 (by decide) ?_
  refine hv_icmp_ne (tgt := 75) dX12_sign_68 (by decide) (fun c_68 => ?_) (fun c_68 => absurd c_68 ((fun q => h42 ((nI_eq (b := 42) (by omega) (by decide)).mp q))))
  refine hv_iload_n dX12_sign_75 rfl ?_
  refine hv_bipush (v := 47) dX12_sign_76 (by decide) ?_
  refine hv_icmp_ne (tgt := 85) dX12_sign_78 (by decide) (fun c_78 => ?_) (fun c_78 => absurd c_78 ((fun q => h47 ((nI_eq (b := 47) (by omega) (by decide)).mp q))))
  refine hv_iload_n dX12_sign_85 rfl ?_
  refine hv_bipush (v := 60) dX12_sign_86 (by decide) ?_
  refine hv_icmp_ne (tgt := 95) dX12_sign_88 (by decide) (fun c_88 => ?_) (fun c_88 => absurd c_88 ((fun q => h60 ((nI_eq (b := 60) (by omega) (by decide)).mp q))))
  exact tail
end S70

