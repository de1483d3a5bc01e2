theorem tkd_let {f : hF} {n p : Nat} (h : isLt (bN f p) = true) : tkd f n p = (if 8 < rn isLt f n 2000 p then 26 else wkF (dgs f p (rn isLt f n 2000 p)) 23) ∧ tvl f n p = rn isLt f n 2000 p := by
  unfold tkd tvl
  rw [if_pos h, if_pos h]
  exact ⟨rfl, rfl⟩
theorem tkd_dig {f : hF} {n p : Nat} (h1 : isLt (bN f p) = false) (h : isDg (bN f p) = true) : tkd f n p = (if 4 < rn isDg f n 2000 p then 26 else 24) ∧ tvl f n p = (if 4 < rn isDg f n 2000 p then 0 else num f p (rn isDg f n 2000 p)) := by
  have hn : ¬ isLt (bN f p) = true := by rw [h1]; decide
  unfold tkd tvl
  rw [if_neg hn, if_neg hn, if_pos h, if_pos h]
  exact ⟨rfl, rfl⟩
theorem tkd_sgn {f : hF} {n p : Nat} (h1 : isLt (bN f p) = false) (h : isDg (bN f p) = false) : tkd f n p = sgn (bN f p) ∧ tvl f n p = 0 := by
  have hn : ¬ isLt (bN f p) = true := by rw [h1]; decide
  have hn2 : ¬ isDg (bN f p) = true := by rw [h]; decide
  unfold tkd tvl
  rw [if_neg hn, if_neg hn, if_neg hn2, if_neg hn2]
  exact ⟨rfl, rfl⟩
theorem upd_self {f : hF} {k : Nat} {v : Int32} (h : f k = v) : upd f k v = f := by
  funext j
  unfold upd
  by_cases c : j = k
  · rw [if_pos c, c, h]
  · rw [if_neg c]
/-- a NAME: letters, 8 at most -/
theorem kd_name {f : hF} {n i : Nat} (h : kd f n i = 23) : tq f n i < n ∧ isLt (bN f (tq f n i)) = true ∧ vl f n i = rn isLt f n 2000 (tq f n i) ∧ vl f n i ≤ 8 := by
  have hq : tq f n i < n := Classical.byContradiction fun q => by rw [kd_25.mpr q] at h; exact absurd h (by decide)
  unfold kd at h
  rw [if_pos hq] at h
  unfold vl
  rw [if_pos hq]
  cases h1 : isLt (bN f (tq f n i)) with
  | true =>
    obtain ⟨a1, a2⟩ := tkd_let (n := n) h1
    refine ⟨hq, rfl, a2, ?_⟩
    rw [a1] at h
    rw [a2]
    split at h
    · omega
    · omega
  | false =>
    exfalso
    cases h2 : isDg (bN f (tq f n i)) with
    | true =>
      rw [(tkd_dig (n := n) h1 h2).1] at h
      split at h <;> omega
    | false =>
      rw [(tkd_sgn (n := n) h1 h2).1] at h
      have := sgn_ne (bN f (tq f n i))
      omega
/-- an INT -/
theorem kd_int {f : hF} {n i : Nat} (h : kd f n i = 24) : tq f n i < n ∧ vl f n i ≤ 9999 := by
  have hq : tq f n i < n := Classical.byContradiction fun q => by rw [kd_25.mpr q] at h; exact absurd h (by decide)
  unfold kd at h
  rw [if_pos hq] at h
  unfold vl
  rw [if_pos hq]
  cases h1 : isLt (bN f (tq f n i)) with
  | true =>
    exfalso
    rw [(tkd_let (n := n) h1).1] at h
    have hw := wkF_le (d := dgs f (tq f n i) (rn isLt f n 2000 (tq f n i))) 23 (Nat.le_refl _)
    split at h <;> omega
  | false =>
    cases h2 : isDg (bN f (tq f n i)) with
    | true =>
      obtain ⟨a1, a2⟩ := tkd_dig (n := n) h1 h2
      rw [a1] at h
      split at h
      · omega
      · rename_i c
        rw [a2, if_neg c]
        have h3 := num_lt f (tq f n i) (rn isDg f n 2000 (tq f n i)) (fun j hj => (rn_all isDg f 2000 (tq f n i) j hj).2)
        have h4 : 10 ^ rn isDg f n 2000 (tq f n i) ≤ 10 ^ 4 := Nat.pow_le_pow_right (by decide) (by omega)
        exact ⟨hq, by omega⟩
    | false =>
      exfalso
      rw [(tkd_sgn (n := n) h1 h2).1] at h
      have := sgn_ne (bN f (tq f n i))
      omega
/-- the number of a name -/
def dg (f : hF) (n i : Nat) : Nat := dgs f (tq f n i) (vl f n i)
section S69
variable {G : hGl} {σ : hS} {τ : hT} {x y : Option Nat}
def pSc (f : hF) (n p sz : Nat) (σ σ' : hS) : Prop := σ' 4 = upd (σ 4) sz (nI (tkd f n p)) ∧ σ' 5 = upd (σ 5) sz (nI p) ∧ σ' 6 = upd (σ 6) sz (nI (tvl f n p)) ∧ σ' 3 = upd (upd (σ 3) 5 (nI (sz + 1))) 6 (nI (p + tln f n p))
theorem c_scanOne {n p sz : Nat} {f : hF} (hf : σ 2 = f) (hn : σ 1 1 = nI n) (hn2 : n ≤ 2000) (hp : σ 3 6 = nI p) (hp2 : p < n) (h5 : σ 3 5 = nI sz) (hsz : sz ≤ 400) : hCal G (m_X9_scanOne (hQp [3, 4, 5, 6] (some (.int (bI (!decide (tkd f n p = 26))))) (rr 38 51 x y) σ τ (pSc f n p sz σ))) [.ref (hgA G 3)] shp (rr 38 51 x y) σ τ := by
  have htl := tln_pos (f := f) hp2
  have hkl := (tkd_le f n p).1
  have hbl := bN_lt f p
  have hl1 := (rn_le isLt f (n := n) 2000 p).1
  have hd1 := (rn_le isDg f (n := n) 2000 p).1
  have tail : ∀ (v1 K V l5 : Int32) (tl : Nat), K = nI (tkd f n p) → V = nI (tvl f n p) → tl = tln f n p → ∀ l5' : Option Value, (l5' = none ∨ l5' = some (.int l5)) → hV G (m_X9_scanOne (hQp [3, 4, 5, 6] (some (.int (bI (!decide (tkd f n p = 26))))) (rr 38 51 x y) σ τ (pSc f n p sz σ))) 0 0 shp 127 [some (.ref (hgA G 3)), some (.int v1), some (.int K), some (.int V), some (.int (nI tl)), l5'] [] (rr 38 51 x y) σ τ := by
    intro v1 K V l5 tl hK hV2 htl l5' hl5
    subst htl hK hV2
    rcases hl5 with rfl | rfl
    · skip
      refine hv_aload_n dX9_scanOne_127 rfl ?_
      refine hv_iload_n dX9_scanOne_128 rfl ?_
      refine hv_iload_n dX9_scanOne_129 rfl ?_
      refine hv_cv2 (c_tput h5 hsz) dX9_scanOne_130 ml_X9_83 mk_X9_put (by first | rfl | assumption) rfl rfl rfl rfl rfl ?_
      rintro _ _ σ1 _ ⟨rfl, rfl, rfl, q1, q2, q3, q4, q5⟩
      refine hv_aload_n dX9_scanOne_133 rfl ?_
      refine hv_dup dX9_scanOne_134 rfl ?_
      refine hv_geti dX9_scanOne_135 fl_X9_33 (by first | rfl | assumption) rfl ?_
      refine hv_iload dX9_scanOne_138 rfl ?_
      rw [q5, pk_un (show 6 ≠ 5 by decide), hp]
      refine hv_iadd dX9_scanOne_140 ?_
      rw [nI_add]
      refine hv_puti dX9_scanOne_141 fl_X9_33 (by first | rfl | assumption) rfl rfl rfl ?_
      refine hv_iload_n dX9_scanOne_144 rfl ?_
      refine hv_bipush (v := 26) dX9_scanOne_145 (by decide) ?_
      refine hv_icmp_eq (tgt := 154) dX9_scanOne_147 (by decide) (fun c_147 => ?_) (fun c_147 => ?_)
      · have hk : tkd f n p = 26 := (nI_eq (b := 26) (by omega) (by decide)).mp c_147
        refine hv_iconst (v := 0) dX9_scanOne_154 (by decide) ?_
        refine hv_zret dX9_scanOne_155 rfl (by first | exact Or.inl rfl | exact Or.inr rfl | assumption) ?_
        first
          | rw [decide_eq_true hk]
          | rw [decide_eq_false hk]
        refine ⟨rfl, rfl, rfl, off_up q1 (by decide), ?_, ?_, ?_, ?_⟩
        · rw [hva_ne (by decide)]; exact q2
        · rw [hva_ne (by decide), q3, hp]
        · rw [hva_ne (by decide)]; exact q4
        · rw [hup_eq, q5]
      · have hk : ¬ tkd f n p = 26 := fun q => c_147 (by rw [q]; rfl)
        refine hv_iconst (v := 1) dX9_scanOne_150 (by decide) ?_
        refine hv_goto (tgt := 155) dX9_scanOne_151 (by decide) ?_
        refine hv_zret dX9_scanOne_155 rfl (by first | exact Or.inl rfl | exact Or.inr rfl | assumption) ?_
        first
          | rw [decide_eq_true hk]
          | rw [decide_eq_false hk]
        refine ⟨rfl, rfl, rfl, off_up q1 (by decide), ?_, ?_, ?_, ?_⟩
        · rw [hva_ne (by decide)]; exact q2
        · rw [hva_ne (by decide), q3, hp]
        · rw [hva_ne (by decide)]; exact q4
        · rw [hup_eq, q5]
    · skip
      refine hv_aload_n dX9_scanOne_127 rfl ?_
      refine hv_iload_n dX9_scanOne_128 rfl ?_
      refine hv_iload_n dX9_scanOne_129 rfl ?_
      refine hv_cv2 (c_tput h5 hsz) dX9_scanOne_130 ml_X9_83 mk_X9_put (by first | rfl | assumption) rfl rfl rfl rfl rfl ?_
      rintro _ _ σ1 _ ⟨rfl, rfl, rfl, q1, q2, q3, q4, q5⟩
      refine hv_aload_n dX9_scanOne_133 rfl ?_
      refine hv_dup dX9_scanOne_134 rfl ?_
      refine hv_geti dX9_scanOne_135 fl_X9_33 (by first | rfl | assumption) rfl ?_
      refine hv_iload dX9_scanOne_138 rfl ?_
      rw [q5, pk_un (show 6 ≠ 5 by decide), hp]
      refine hv_iadd dX9_scanOne_140 ?_
      rw [nI_add]
      refine hv_puti dX9_scanOne_141 fl_X9_33 (by first | rfl | assumption) rfl rfl rfl ?_
      refine hv_iload_n dX9_scanOne_144 rfl ?_
      refine hv_bipush (v := 26) dX9_scanOne_145 (by decide) ?_
      refine hv_icmp_eq (tgt := 154) dX9_scanOne_147 (by decide) (fun c_147 => ?_) (fun c_147 => ?_)
      · have hk : tkd f n p = 26 := (nI_eq (b := 26) (by omega) (by decide)).mp c_147
        refine hv_iconst (v := 0) dX9_scanOne_154 (by decide) ?_
        refine hv_zret dX9_scanOne_155 rfl (by first | exact Or.inl rfl | exact Or.inr rfl | assumption) ?_
        first
          | rw [decide_eq_true hk]
          | rw [decide_eq_false hk]
        refine ⟨rfl, rfl, rfl, off_up q1 (by decide), ?_, ?_, ?_, ?_⟩
        · rw [hva_ne (by decide)]; exact q2
        · rw [hva_ne (by decide), q3, hp]
        · rw [hva_ne (by decide)]; exact q4
        · rw [hup_eq, q5]
      · have hk : ¬ tkd f n p = 26 := fun q => c_147 (by rw [q]; rfl)
        refine hv_iconst (v := 1) dX9_scanOne_150 (by decide) ?_
        refine hv_goto (tgt := 155) dX9_scanOne_151 (by decide) ?_
        refine hv_zret dX9_scanOne_155 rfl (by first | exact Or.inl rfl | exact Or.inr rfl | assumption) ?_
        first
          | rw [decide_eq_true hk]
          | rw [decide_eq_false hk]
        refine ⟨rfl, rfl, rfl, off_up q1 (by decide), ?_, ?_, ?_, ?_⟩
        · rw [hva_ne (by decide)]; exact q2
        · rw [hva_ne (by decide), q3, hp]
        · rw [hva_ne (by decide)]; exact q4
        · rw [hup_eq, q5]
  refine hv_enter pn_X9 rfl ?_
  refine hv_aload_n dX9_scanOne_0 rfl ?_
  refine hv_getr dX9_scanOne_1 fl_X9_19 (by first | rfl | assumption) rfl (by first | rfl | assumption) ?_
  refine hv_aload_n dX9_scanOne_4 rfl ?_
  refine hv_geti dX9_scanOne_5 fl_X9_33 (by first | rfl | assumption) rfl ?_
  rw [hp]
  refine hv_cv1 (c_sign (f := f) (n := n) hf hn hn2 (by omega)) dX9_scanOne_8 ml_X9_50 mk_X7_sign (by first | rfl | assumption) rfl rfl rfl rfl rfl ?_
  rintro _ _ _ _ ⟨rfl, rfl, rfl, rfl⟩
  rw [show sgI f n p = nI (bN f p) from if_pos hp2]
  refine hv_istore_n dX9_scanOne_11 rfl rfl ?_
  refine hv_iconst (v := 0) dX9_scanOne_12 (by decide) ?_
  refine hv_istore_n dX9_scanOne_13 rfl rfl ?_
  refine hv_iconst (v := 1) dX9_scanOne_14 (by decide) ?_
  refine hv_istore dX9_scanOne_15 rfl rfl ?_
  refine hv_iload_n dX9_scanOne_17 rfl ?_
  refine hv_cs1 (c_isLetter) dX9_scanOne_18 ml_X9_57 mk_X9_isLetter rfl rfl rfl ?_
  rintro _ _ _ _ ⟨rfl, rfl, rfl, rfl⟩
  rw [show inI 97 122 (nI (bN f p)) = isLt (bN f p) from decide_eq_decide.mpr (and_congr (nI_leI (a := 97) (by decide) (by omega)) (nI_leI (b := 122) (by omega) (by decide)))]
  refine hv_if_eq (tgt := 55) dX9_scanOne_21 (by decide) (fun c_21 => ?_) (fun c_21 => ?_)
  · refine hv_iload_n dX9_scanOne_55 rfl ?_
    refine hv_cs1 (c_isDigit) dX9_scanOne_56 ml_X9_67 mk_X9_isDigit rfl rfl rfl ?_
    rintro _ _ _ _ ⟨rfl, rfl, rfl, rfl⟩
    rw [show inI 48 57 (nI (bN f p)) = isDg (bN f p) from decide_eq_decide.mpr (and_congr (nI_leI (a := 48) (by decide) (by omega)) (nI_leI (b := 57) (by omega) (by decide)))]
    refine hv_if_eq (tgt := 102) dX9_scanOne_59 (by decide) (fun c_59 => ?_) (fun c_59 => ?_)
    · obtain ⟨a1, a2⟩ := tkd_sgn (n := n) (bI_0 c_21) (bI_0 c_59)
      have a3 : tln f n p = 1 := by rw [tln, if_pos hp2, if_neg (by rw [bI_0 c_21]; decide), if_neg (by rw [bI_0 c_59]; decide)]
      have a4 := sgn_ix (bN f p) hbl
      refine hv_ldcK1 dX9_scanOne_102 rfl ?_
      refine hv_iload_n dX9_scanOne_104 rfl ?_
      refine hv_i2c dX9_scanOne_105 ?_
      rw [i2c_b _ hbl]
      refine hv_cw1 (i := 1) (by decide) (s_indexOf (nI_pos' (by omega)) (nI_le (b := 255) (by omega) (by decide))) dX9_scanOne_106 ml_X9_78 mk_J0_indexOf_0f7a4 rfl rfl rfl rfl ?_
      rintro _ _ _ _ ⟨rfl, rfl, rfl, rfl⟩
      refine hv_istore dX9_scanOne_109 rfl rfl ?_
      refine hv_iload dX9_scanOne_111 rfl ?_
      refine hv_if_ge (tgt := 121) dX9_scanOne_113 (by decide) (fun c_113 => ?_) (fun c_113 => ?_)
      · rw [if_neg (Int32.not_lt.mpr c_113)] at a4
        refine hv_bipush (v := 27) dX9_scanOne_121 (by decide) ?_
        refine hv_iload dX9_scanOne_123 rfl ?_
        refine hv_iadd dX9_scanOne_125 ?_
        refine hv_str (congrArg (fun z => [Value.int z]) a4) ?_
        refine hv_istore_n dX9_scanOne_126 rfl rfl ?_
        first
          | exact absurd c_71 c_85
          | exact absurd c_85 c_71
          | exact tail _ _ _ 0 _ (by rw [a1] <;> rfl) (by rw [a2] <;> rfl) a3.symm none (Or.inl rfl)
          | exact tail _ _ _ (ixF (nI (bN f p)) 9 0) 1 (by rw [a1] <;> rfl) (by rw [a2] <;> rfl) a3.symm _ (Or.inr rfl)
      · rw [if_pos (Int32.not_le.mp c_113)] at a4
        refine hv_bipush (v := 26) dX9_scanOne_116 (by decide) ?_
        refine hv_goto (tgt := 126) dX9_scanOne_118 (by decide) ?_
        refine hv_str (congrArg (fun z => [Value.int z]) a4) ?_
        refine hv_istore_n dX9_scanOne_126 rfl rfl ?_
        first
          | exact absurd c_71 c_85
          | exact absurd c_85 c_71
          | exact tail _ _ _ 0 _ (by rw [a1] <;> rfl) (by rw [a2] <;> rfl) a3.symm none (Or.inl rfl)
          | exact tail _ _ _ (ixF (nI (bN f p)) 9 0) 1 (by rw [a1] <;> rfl) (by rw [a2] <;> rfl) a3.symm _ (Or.inr rfl)
    · obtain ⟨a1, a2⟩ := tkd_dig (n := n) (bI_0 c_21) (bI_1 c_59)
      have a3 : tln f n p = rn isDg f n 2000 p := by rw [tln, if_pos hp2, if_neg (by rw [bI_0 c_21]; decide), if_pos (bI_1 c_59)]
      refine hv_aload_n dX9_scanOne_62 rfl ?_
      refine hv_cv0 (c_digits (f := f) (n := n) hf hn hn2 hp (by omega)) dX9_scanOne_63 ml_X9_70 mk_X9_digits (by first | rfl | assumption) rfl rfl rfl rfl rfl ?_
      rintro _ _ _ _ ⟨rfl, rfl, rfl, rfl⟩
      refine hv_istore dX9_scanOne_66 rfl rfl ?_
      refine hv_iload dX9_scanOne_68 rfl ?_
      refine hv_iconst (v := 4) dX9_scanOne_70 (by decide) ?_
      refine hv_icmp_le (tgt := 79) dX9_scanOne_71 (by decide) (fun c_71 => ?_) (fun c_71 => ?_)
      · have h4 : rn isDg f n 2000 p ≤ 4 := (nI_leI (b := 4) (by omega) (by decide)).mp c_71
        rw [if_neg (by omega)] at a1
        rw [if_neg (by omega)] at a2
        refine hv_bipush (v := 24) dX9_scanOne_79 (by decide) ?_
        refine hv_istore_n dX9_scanOne_81 rfl rfl ?_
        refine hv_iload dX9_scanOne_82 rfl ?_
        refine hv_iconst (v := 4) dX9_scanOne_84 (by decide) ?_
        refine hv_icmp_le (tgt := 92) dX9_scanOne_85 (by decide) (fun c_85 => ?_) (fun c_85 => ?_)
        · first | skip | exact absurd c_85 c_71
          refine hv_aload_n dX9_scanOne_92 rfl ?_
          refine hv_iload dX9_scanOne_93 rfl ?_
          refine hv_cv1 (c_number (f := f) (n := n) hf hn hn2 hp (show rn isDg f n 2000 p ≤ 4 from (nI_leI (b := 4) (by omega) (by decide)).mp c_85) (fun i hi => rn_all isDg f 2000 p i hi)) dX9_scanOne_95 ml_X9_73 mk_X9_number (by first | rfl | assumption) rfl rfl rfl rfl rfl ?_
          rintro _ _ _ _ ⟨rfl, rfl, rfl, rfl⟩
          refine hv_istore_n dX9_scanOne_98 rfl rfl ?_
          refine hv_goto (tgt := 127) dX9_scanOne_99 (by decide) ?_
          first
            | exact absurd c_71 c_85
            | exact absurd c_85 c_71
            | exact tail _ _ _ 0 _ (by rw [a1] <;> rfl) (by rw [a2] <;> rfl) a3.symm none (Or.inl rfl)
            | exact tail _ _ _ (ixF (nI (bN f p)) 9 0) 1 (by rw [a1] <;> rfl) (by rw [a2] <;> rfl) a3.symm _ (Or.inr rfl)
        · first | skip | exact absurd c_71 c_85
          refine hv_iconst (v := 0) dX9_scanOne_88 (by decide) ?_
          refine hv_goto (tgt := 98) dX9_scanOne_89 (by decide) ?_
          refine hv_istore_n dX9_scanOne_98 rfl rfl ?_
          refine hv_goto (tgt := 127) dX9_scanOne_99 (by decide) ?_
          first
            | exact absurd c_71 c_85
            | exact absurd c_85 c_71
            | exact tail _ _ _ 0 _ (by rw [a1] <;> rfl) (by rw [a2] <;> rfl) a3.symm none (Or.inl rfl)
            | exact tail _ _ _ (ixF (nI (bN f p)) 9 0) 1 (by rw [a1] <;> rfl) (by rw [a2] <;> rfl) a3.symm _ (Or.inr rfl)
      · have h4 : 4 < rn isDg f n 2000 p := (nI_ltI (a := 4) (by decide) (by omega)).mp (Int32.not_le.mp c_71)
        rw [if_pos h4] at a1
        rw [if_pos h4] at a2
        refine hv_bipush (v := 26) dX9_scanOne_74 (by decide) ?_
        refine hv_goto (tgt := 81) dX9_scanOne_76 (by decide) ?_
        refine hv_istore_n dX9_scanOne_81 rfl rfl ?_
        refine hv_iload dX9_scanOne_82 rfl ?_
        refine hv_iconst (v := 4) dX9_scanOne_84 (by decide) ?_
        refine hv_icmp_le (tgt := 92) dX9_scanOne_85 (by decide) (fun c_85 => ?_) (fun c_85 => ?_)
        · first | skip | exact absurd c_85 c_71
          refine hv_aload_n dX9_scanOne_92 rfl ?_
          refine hv_iload dX9_scanOne_93 rfl ?_
          refine hv_cv1 (c_number (f := f) (n := n) hf hn hn2 hp (show rn isDg f n 2000 p ≤ 4 from (nI_leI (b := 4) (by omega) (by decide)).mp c_85) (fun i hi => rn_all isDg f 2000 p i hi)) dX9_scanOne_95 ml_X9_73 mk_X9_number (by first | rfl | assumption) rfl rfl rfl rfl rfl ?_
          rintro _ _ _ _ ⟨rfl, rfl, rfl, rfl⟩
          refine hv_istore_n dX9_scanOne_98 rfl rfl ?_
          refine hv_goto (tgt := 127) dX9_scanOne_99 (by decide) ?_
          first
            | exact absurd c_71 c_85
            | exact absurd c_85 c_71
            | exact tail _ _ _ 0 _ (by rw [a1] <;> rfl) (by rw [a2] <;> rfl) a3.symm none (Or.inl rfl)
            | exact tail _ _ _ (ixF (nI (bN f p)) 9 0) 1 (by rw [a1] <;> rfl) (by rw [a2] <;> rfl) a3.symm _ (Or.inr rfl)
        · first | skip | exact absurd c_71 c_85
          refine hv_iconst (v := 0) dX9_scanOne_88 (by decide) ?_
          refine hv_goto (tgt := 98) dX9_scanOne_89 (by decide) ?_
          refine hv_istore_n dX9_scanOne_98 rfl rfl ?_
          refine hv_goto (tgt := 127) dX9_scanOne_99 (by decide) ?_
          first
            | exact absurd c_71 c_85
            | exact absurd c_85 c_71
            | exact tail _ _ _ 0 _ (by rw [a1] <;> rfl) (by rw [a2] <;> rfl) a3.symm none (Or.inl rfl)
            | exact tail _ _ _ (ixF (nI (bN f p)) 9 0) 1 (by rw [a1] <;> rfl) (by rw [a2] <;> rfl) a3.symm _ (Or.inr rfl)
  · obtain ⟨a1, a2⟩ := tkd_let (n := n) (bI_1 c_21)
    have a3 : tln f n p = rn isLt f n 2000 p := by rw [tln, if_pos hp2, if_pos (bI_1 c_21)]
    refine hv_aload_n dX9_scanOne_24 rfl ?_
    refine hv_cv0 (c_letters (f := f) (n := n) hf hn hn2 hp (by omega)) dX9_scanOne_25 ml_X9_60 mk_X9_letters (by first | rfl | assumption) rfl rfl rfl rfl rfl ?_
    rintro _ _ _ _ ⟨rfl, rfl, rfl, rfl⟩
    refine hv_istore dX9_scanOne_28 rfl rfl ?_
    refine hv_iload dX9_scanOne_30 rfl ?_
    refine hv_istore_n dX9_scanOne_32 rfl rfl ?_
    refine hv_iload dX9_scanOne_33 rfl ?_
    refine hv_bipush (v := 8) dX9_scanOne_35 (by decide) ?_
    refine hv_icmp_le (tgt := 45) dX9_scanOne_37 (by decide) (fun c_37 => ?_) (fun c_37 => ?_)
    · have h8 : rn isLt f n 2000 p ≤ 8 := (nI_leI (b := 8) (by omega) (by decide)).mp c_37
      rw [if_neg (by omega)] at a1
      refine hv_aload_n dX9_scanOne_45 rfl ?_
      refine hv_iload dX9_scanOne_46 rfl ?_
      refine hv_cv1 (c_wordOrName (f := f) (n := n) hf hn hn2 hp h8 (fun i hi => rn_all isLt f 2000 p i hi)) dX9_scanOne_48 ml_X9_64 mk_X9_wordOrName (by first | rfl | assumption) rfl rfl rfl rfl rfl ?_
      rintro _ _ _ _ ⟨rfl, rfl, rfl, rfl⟩
      refine hv_istore_n dX9_scanOne_51 rfl rfl ?_
      refine hv_goto (tgt := 127) dX9_scanOne_52 (by decide) ?_
      first
        | exact absurd c_71 c_85
        | exact absurd c_85 c_71
        | exact tail _ _ _ 0 _ (by rw [a1] <;> rfl) (by rw [a2] <;> rfl) a3.symm none (Or.inl rfl)
        | exact tail _ _ _ (ixF (nI (bN f p)) 9 0) 1 (by rw [a1] <;> rfl) (by rw [a2] <;> rfl) a3.symm _ (Or.inr rfl)
    · rw [if_pos ((nI_ltI (a := 8) (by decide) (by omega)).mp (Int32.not_le.mp c_37))] at a1
      refine hv_bipush (v := 26) dX9_scanOne_40 (by decide) ?_
      refine hv_goto (tgt := 51) dX9_scanOne_42 (by decide) ?_
      refine hv_istore_n dX9_scanOne_51 rfl rfl ?_
      refine hv_goto (tgt := 127) dX9_scanOne_52 (by decide) ?_
      first
        | exact absurd c_71 c_85
        | exact absurd c_85 c_71
        | exact tail _ _ _ 0 _ (by rw [a1] <;> rfl) (by rw [a2] <;> rfl) a3.symm none (Or.inl rfl)
        | exact tail _ _ _ (ixF (nI (bN f p)) 9 0) 1 (by rw [a1] <;> rfl) (by rw [a2] <;> rfl) a3.symm _ (Or.inr rfl)
set_option maxRecDepth 100000 in
theorem c_scan {n : Nat} {f : hF} (hf : σ 2 = f) (hn : σ 1 1 = nI n) (hn2 : n ≤ 2000) : hCal G (m_X9_scan (hQp [3, 4, 5, 6] none (rr 38 51 x y) σ τ (tokC f n))) [.ref (hgA G 3)] shp (rr 38 51 x y) σ τ := by
  refine hv_enter pn_X9 rfl ?_
  have done : ∀ (σ' : hS) (l1 l2 : Int32) sz, sz ≤ 401 → (∀ c, c ∉ [3, 4, 5, 6] → σ' c = σ c) → σ' 3 5 = nI sz → σ' 3 4 = nI n → (∀ i, i < sz → tq f n i < n ∧ σ' 4 i = nI (tkd f n (tq f n i)) ∧ σ' 5 i = nI (tq f n i) ∧ σ' 6 i = nI (tvl f n (tq f n i))) → (sz = 401 ∨ ¬ tq f n sz < n ∨ (1 ≤ sz ∧ tkd f n (tq f n (sz - 1)) = 26)) → hV G (m_X9_scan (hQp [3, 4, 5, 6] none (rr 38 51 x y) σ τ (tokC f n))) 0 0 shp 70 [some (.ref (hgA G 3)), some (.int l1), some (.int l2)] [] (rr 38 51 x y) σ' τ := by
    intro σ' l1 l2 sz h1 h2 h3 h4 h5 h6
    refine hv_vret dX9_scan_70 rfl ?_
    exact ⟨rfl, rfl, rfl, h2, sz, h1, h3, h4, h5, h6⟩
  have stop : ∀ (σ' : hS) (l2 : Int32) sz, sz ≤ 401 → (∀ c, c ∉ [3, 4, 5, 6] → σ' c = σ c) → σ' 3 5 = nI sz → σ' 3 4 = nI n → (∀ i, i < sz → tq f n i < n ∧ σ' 4 i = nI (tkd f n (tq f n i)) ∧ σ' 5 i = nI (tq f n i) ∧ σ' 6 i = nI (tvl f n (tq f n i))) → (sz = 401 ∨ ¬ tq f n sz < n ∨ (1 ≤ sz ∧ tkd f n (tq f n (sz - 1)) = 26)) → hV G (m_X9_scan (hQp [3, 4, 5, 6] none (rr 38 51 x y) σ τ (tokC f n))) 0 0 shp 25 [some (.ref (hgA G 3)), some (.int 0), some (.int l2)] [] (rr 38 51 x y) σ' τ := by
    intro σ' l2 sz h1 h2 h3 h4 h5 h6
    refine hv_iload_n dX9_scan_25 rfl ?_
    refine hv_sipush (v := 400) dX9_scan_26 (by decide) ?_
    refine hv_icmp_gt (tgt := 70) dX9_scan_29 (by decide) (fun c_29 => ?_) (fun c_29 => ?_)
    · exact done σ' _ _ sz h1 h2 h3 h4 h5 h6
    · refine hv_iload_n dX9_scan_32 rfl ?_
      refine hv_if_eq (tgt := 70) dX9_scan_33 (by decide) (fun c_33 => ?_) (fun c_33 => absurd (rfl) c_33)
      exact done σ' _ _ sz h1 h2 h3 h4 h5 h6
  have loop : ∀ k i p (σ' : hS), i + k = 401 → (∀ c, c ∉ [3, 4, 5, 6] → σ' c = σ c) → σ' 3 5 = nI i → σ' 3 4 = nI n → σ' 3 6 = nI p → p ≤ n → nb f n 2000 p = tq f n i → (∀ i', i' < i → tq f n i' < n ∧ σ' 4 i' = nI (tkd f n (tq f n i')) ∧ σ' 5 i' = nI (tq f n i') ∧ σ' 6 i' = nI (tvl f n (tq f n i'))) → hV G (m_X9_scan (hQp [3, 4, 5, 6] none (rr 38 51 x y) σ τ (tokC f n))) 0 0 shp 25 [some (.ref (hgA G 3)), some (.int 1), some (.int (nI i))] [] (rr 38 51 x y) σ' τ := by
    intro k
    induction k with
    | zero =>
      intro i p σ' hi hσ e5 e4 e6 hpn hnb htk
      obtain rfl : i = 401 := by omega
      refine hv_iload_n dX9_scan_25 rfl ?_
      refine hv_sipush (v := 400) dX9_scan_26 (by decide) ?_
      refine hv_icmp_gt (tgt := 70) dX9_scan_29 (by decide) (fun c_29 => ?_) (fun c_29 => absurd ((by decide)) c_29)
      exact done σ' _ _ 401 (Nat.le_refl _) hσ e5 e4 htk (Or.inl rfl)
    | succ k ih =>
      intro i p σ' hi hσ e5 e4 e6 hpn hnb htk
      have e2 : σ' 2 = f := (hσ 2 (by decide)).trans hf
      have e1 : σ' 1 1 = nI n := by rw [hσ 1 (by decide)]; exact hn
      have hql := tq_le (f := f) (n := n) i
      refine hv_iload_n dX9_scan_25 rfl ?_
      refine hv_sipush (v := 400) dX9_scan_26 (by decide) ?_
      refine hv_icmp_gt (tgt := 70) dX9_scan_29 (by decide) (fun c_29 => absurd c_29 ((nI_nlt (a := 400) (by omega) (by decide)))) (fun c_29 => ?_)
      refine hv_iload_n dX9_scan_32 rfl ?_
      refine hv_if_eq (tgt := 70) dX9_scan_33 (by decide) (fun c_33 => absurd c_33 ((by decide))) (fun c_33 => ?_)
      refine hv_aload_n dX9_scan_36 rfl ?_
      refine hv_cv0 (c_skipBlanks e2 e1 hn2 e6 hpn) dX9_scan_37 ml_X9_36 mk_X9_skipBlanks (by first | rfl | assumption) rfl rfl rfl rfl rfl ?_
      rintro _ _ σ1 _ ⟨rfl, rfl, rfl, q1, q2⟩
      rw [hnb] at q2
      have g6 : σ1 3 6 = nI (tq f n i) := by rw [q2, pk_us]
      have g5 : σ1 3 5 = nI i := by rw [q2, pk_un (by decide)]; exact e5
      have g4 : σ1 3 4 = nI n := by rw [q2, pk_un (by decide)]; exact e4
      have gσ : ∀ c, c ∉ [3, 4, 5, 6] → σ1 c = σ c := off_tr hσ q1 (by decide) (by decide)
      have gt : ∀ i', i' < i → tq f n i' < n ∧ σ1 4 i' = nI (tkd f n (tq f n i')) ∧ σ1 5 i' = nI (tq f n i') ∧ σ1 6 i' = nI (tvl f n (tq f n i')) := fun i' hi' => by rw [q1 4 (by decide), q1 5 (by decide), q1 6 (by decide)]; exact htk i' hi'
      refine hv_aload_n dX9_scan_40 rfl ?_
      refine hv_geti dX9_scan_41 fl_X9_33 (by first | rfl | assumption) rfl ?_
      refine hv_aload_n dX9_scan_44 rfl ?_
      refine hv_geti dX9_scan_45 fl_X9_27 (by first | rfl | assumption) rfl ?_
      rw [g6, g4]
      refine hv_icmp_ge (tgt := 62) dX9_scan_48 (by decide) (fun c_48 => ?_) (fun c_48 => ?_)
      · have hge : ¬ tq f n i < n := fun q => nI_ge q (by omega) c_48
        refine hv_iconst (v := 0) dX9_scan_62 (by decide) ?_
        refine hv_istore_n dX9_scan_63 rfl rfl ?_
        refine hv_iinc dX9_scan_64 rfl (nI_1 i) rfl rfl ?_
        refine hv_goto (tgt := 25) dX9_scan_67 (by decide) ?_
        first
          | exact ih (i + 1) _ σ2 (by omega) kσ k5 k4 k6 (tln_pos (f := f) hlt).2 rfl kt
          | exact stop σ2 _ (i + 1) (by omega) kσ k5 k4 kt (Or.inr (Or.inr ⟨by omega, by rw [Nat.add_sub_cancel]; exact of_decide_eq_true (by have := bI_0 c_55; simpa using this)⟩))
          | exact stop σ1 _ i (by omega) gσ g5 g4 gt (Or.inr (Or.inl hge))
      · have hlt : tq f n i < n := (nI_ltI (by omega) (by omega)).mp (Int32.not_le.mp c_48)
        refine hv_aload_n dX9_scan_51 rfl ?_
        refine hv_cv0 (c_scanOne (f := f) (n := n) (p := tq f n i) (sz := i) ((q1 2 (by decide)).trans e2) (by rw [q1 1 (by decide)]; exact e1) hn2 g6 hlt g5 (by omega)) dX9_scan_52 ml_X9_39 mk_X9_scanOne (by first | rfl | assumption) rfl rfl rfl rfl rfl ?_
        rintro _ _ σ2 _ ⟨rfl, rfl, rfl, r1, r2, r3, r4, r5⟩
        have k6 : σ2 3 6 = nI (tq f n i + tln f n (tq f n i)) := by rw [r5, pk_us]
        have k5 : σ2 3 5 = nI (i + 1) := by rw [r5, pk_un (by decide), pk_us]
        have k4 : σ2 3 4 = nI n := by rw [r5, pk_un (by decide), pk_un (by decide)]; exact g4
        have kσ : ∀ c, c ∉ [3, 4, 5, 6] → σ2 c = σ c := off_tr gσ r1 (by decide) (by decide)
        have kt : ∀ i', i' < i + 1 → tq f n i' < n ∧ σ2 4 i' = nI (tkd f n (tq f n i')) ∧ σ2 5 i' = nI (tq f n i') ∧ σ2 6 i' = nI (tvl f n (tq f n i')) := fun i' hi' => by
          rw [r2, r3, r4]
          by_cases e : i' = i
          · subst e; rw [pk_us, pk_us, pk_us]; exact ⟨hlt, rfl, rfl, rfl⟩
          · rw [pk_un e, pk_un e, pk_un e]; exact gt i' (by omega)
        refine hv_if_eq (tgt := 62) dX9_scan_55 (by decide) (fun c_55 => ?_) (fun c_55 => ?_)
        · refine hv_iconst (v := 0) dX9_scan_62 (by decide) ?_
          refine hv_istore_n dX9_scan_63 rfl rfl ?_
          refine hv_iinc dX9_scan_64 rfl (nI_1 i) rfl rfl ?_
          refine hv_goto (tgt := 25) dX9_scan_67 (by decide) ?_
          first
            | exact ih (i + 1) _ σ2 (by omega) kσ k5 k4 k6 (tln_pos (f := f) hlt).2 rfl kt
            | exact stop σ2 _ (i + 1) (by omega) kσ k5 k4 kt (Or.inr (Or.inr ⟨by omega, by rw [Nat.add_sub_cancel]; exact of_decide_eq_true (by have := bI_0 c_55; simpa using this)⟩))
            | exact stop σ1 _ i (by omega) gσ g5 g4 gt (Or.inr (Or.inl hge))
        · refine hv_iconst (v := 1) dX9_scan_58 (by decide) ?_
          refine hv_goto (tgt := 63) dX9_scan_59 (by decide) ?_
          refine hv_istore_n dX9_scan_63 rfl rfl ?_
          refine hv_iinc dX9_scan_64 rfl (nI_1 i) rfl rfl ?_
          refine hv_goto (tgt := 25) dX9_scan_67 (by decide) ?_
          first
            | exact ih (i + 1) _ σ2 (by omega) kσ k5 k4 k6 (tln_pos (f := f) hlt).2 rfl kt
            | exact stop σ2 _ (i + 1) (by omega) kσ k5 k4 kt (Or.inr (Or.inr ⟨by omega, by rw [Nat.add_sub_cancel]; exact of_decide_eq_true (by have := bI_0 c_55; simpa using this)⟩))
            | exact stop σ1 _ i (by omega) gσ g5 g4 gt (Or.inr (Or.inl hge))
  refine hv_aload_n dX9_scan_0 rfl ?_
  refine hv_aload_n dX9_scan_1 rfl ?_
  refine hv_getr dX9_scan_2 fl_X9_19 (by first | rfl | assumption) rfl (by first | rfl | assumption) ?_
  refine hv_geti dX9_scan_5 fl_X9_30 (by first | rfl | assumption) rfl ?_
  rw [hn]
  refine hv_puti dX9_scan_8 fl_X9_27 (by first | rfl | assumption) rfl rfl rfl ?_
  refine hv_aload_n dX9_scan_11 rfl ?_
  refine hv_iconst (v := 0) dX9_scan_12 (by decide) ?_
  refine hv_puti dX9_scan_13 fl_X9_23 (by first | rfl | assumption) rfl rfl rfl ?_
  refine hv_aload_n dX9_scan_16 rfl ?_
  refine hv_iconst (v := 0) dX9_scan_17 (by decide) ?_
  refine hv_puti dX9_scan_18 fl_X9_33 (by first | rfl | assumption) rfl rfl rfl ?_
  refine hv_iconst (v := 1) dX9_scan_21 (by decide) ?_
  refine hv_istore_n dX9_scan_22 rfl rfl ?_
  refine hv_iconst (v := 0) dX9_scan_23 (by decide) ?_
  refine hv_istore_n dX9_scan_24 rfl rfl ?_
  exact loop 401 0 0 _ (by omega) (off_up (off_up (off_up (fun _ _ => rfl) (by decide)) (by decide)) (by decide)) (by simp [va_up, upd]; rfl) (by simp [va_up, upd]) (by simp [va_up, upd]; rfl) (Nat.zero_le _) rfl (fun i' hi' => absurd hi' (by omega))
theorem c_kind {n i : Nat} {f : hF} (ht : tokC f n σ) (hr : rel f n i) : hCal G (m_X9_kind (hEq (some (.int (nI (kd f n i)))) (rr 38 51 x y) σ τ)) [.ref (hgA G 3), .int (nI i)] shp (rr 38 51 x y) σ τ := by
  obtain ⟨sz, t1, t2, t3, t4, t5⟩ := ht
  have hi := hr.1
  refine hv_enter pn_X9 rfl ?_
  rcases tok_rel t1 (fun j hj => (t4 j hj).1) t5 hr with c | ⟨c1, c2⟩
  · have e : kd f n i = tkd f n (tq f n i) := if_pos (t4 i c).1
    refine hv_iload_n dX9_kind_0 rfl ?_
    refine hv_if_lt (tgt := 21) dX9_kind_1 (by decide) (fun c_1 => absurd c_1 ((nI_pos (by omega)))) (fun c_1 => ?_)
    refine hv_iload_n dX9_kind_4 rfl ?_
    refine hv_aload_n dX9_kind_5 rfl ?_
    refine hv_geti dX9_kind_6 fl_X9_23 (by first | rfl | assumption) rfl ?_
    refine hv_icmp_ge (tgt := 21) dX9_kind_9 (by decide) (fun c_9 => absurd c_9 ((by rw [t2]; exact nI_ge c (by omega)))) (fun c_9 => ?_)
    refine hv_aload_n dX9_kind_12 rfl ?_
    refine hv_getr dX9_kind_13 fl_X9_9 (by first | rfl | assumption) rfl (by first | rfl | assumption) ?_
    refine hv_iload_n dX9_kind_16 rfl ?_
    refine hv_iald dX9_kind_17 (by first | rfl | assumption) rfl (by first | assumption | omega) (by first | decide | assumption) ?_
    refine hv_goto (tgt := 23) dX9_kind_18 (by decide) ?_
    refine hv_iret dX9_kind_23 rfl ?_
    rw [(t4 i c).2.1, e]; exact ⟨rfl, rfl, rfl, rfl⟩
  · have e : kd f n i = 25 := if_neg c2
    refine hv_iload_n dX9_kind_0 rfl ?_
    refine hv_if_lt (tgt := 21) dX9_kind_1 (by decide) (fun c_1 => absurd c_1 ((nI_pos (by omega)))) (fun c_1 => ?_)
    refine hv_iload_n dX9_kind_4 rfl ?_
    refine hv_aload_n dX9_kind_5 rfl ?_
    refine hv_geti dX9_kind_6 fl_X9_23 (by first | rfl | assumption) rfl ?_
    refine hv_icmp_ge (tgt := 21) dX9_kind_9 (by decide) (fun c_9 => ?_) (fun c_9 => absurd ((by rw [t2]; exact nI_le (by omega) (by omega))) c_9)
    refine hv_bipush (v := 25) dX9_kind_21 (by decide) ?_
    refine hv_iret dX9_kind_23 rfl ?_
    rw [e]; exact ⟨rfl, rfl, rfl, rfl⟩
theorem c_placeOf {n i : Nat} {f : hF} (ht : tokC f n σ) (hr : rel f n i) : hCal G (m_X9_placeOf (hEq (some (.int (nI (tq f n i)))) (rr 38 51 x y) σ τ)) [.ref (hgA G 3), .int (nI i)] shp (rr 38 51 x y) σ τ := by
  obtain ⟨sz, t1, t2, t3, t4, t5⟩ := ht
  have hi := hr.1
  refine hv_enter pn_X9 rfl ?_
  rcases tok_rel t1 (fun j hj => (t4 j hj).1) t5 hr with c | ⟨c1, c2⟩
  · skip
    refine hv_iload_n dX9_placeOf_0 rfl ?_
    refine hv_if_lt (tgt := 21) dX9_placeOf_1 (by decide) (fun c_1 => absurd c_1 ((nI_pos (by omega)))) (fun c_1 => ?_)
    refine hv_iload_n dX9_placeOf_4 rfl ?_
    refine hv_aload_n dX9_placeOf_5 rfl ?_
    refine hv_geti dX9_placeOf_6 fl_X9_23 (by first | rfl | assumption) rfl ?_
    refine hv_icmp_ge (tgt := 21) dX9_placeOf_9 (by decide) (fun c_9 => absurd c_9 ((by rw [t2]; exact nI_ge c (by omega)))) (fun c_9 => ?_)
    refine hv_aload_n dX9_placeOf_12 rfl ?_
    refine hv_getr dX9_placeOf_13 fl_X9_13 (by first | rfl | assumption) rfl (by first | rfl | assumption) ?_
    refine hv_iload_n dX9_placeOf_16 rfl ?_
    refine hv_iald dX9_placeOf_17 (by first | rfl | assumption) rfl (by first | assumption | omega) (by first | decide | assumption) ?_
    refine hv_goto (tgt := 25) dX9_placeOf_18 (by decide) ?_
    refine hv_iret dX9_placeOf_25 rfl ?_
    rw [(t4 i c).2.2.1]; exact ⟨rfl, rfl, rfl, rfl⟩
  · have e : tq f n i = n := Nat.le_antisymm (tq_le i) (Nat.not_lt.mp c2)
    refine hv_iload_n dX9_placeOf_0 rfl ?_
    refine hv_if_lt (tgt := 21) dX9_placeOf_1 (by decide) (fun c_1 => absurd c_1 ((nI_pos (by omega)))) (fun c_1 => ?_)
    refine hv_iload_n dX9_placeOf_4 rfl ?_
    refine hv_aload_n dX9_placeOf_5 rfl ?_
    refine hv_geti dX9_placeOf_6 fl_X9_23 (by first | rfl | assumption) rfl ?_
    refine hv_icmp_ge (tgt := 21) dX9_placeOf_9 (by decide) (fun c_9 => ?_) (fun c_9 => absurd ((by rw [t2]; exact nI_le (by omega) (by omega))) c_9)
    refine hv_aload_n dX9_placeOf_21 rfl ?_
    refine hv_geti dX9_placeOf_22 fl_X9_27 (by first | rfl | assumption) rfl ?_
    refine hv_iret dX9_placeOf_25 rfl ?_
    rw [e, t3]; exact ⟨rfl, rfl, rfl, rfl⟩
theorem c_tvalue {n i : Nat} {f : hF} (ht : tokC f n σ) (hr : rel f n i) : hCal G (m_X9_value (hEq (some (.int (nI (vl f n i)))) (rr 38 51 x y) σ τ)) [.ref (hgA G 3), .int (nI i)] shp (rr 38 51 x y) σ τ := by
  obtain ⟨sz, t1, t2, t3, t4, t5⟩ := ht
  have hi := hr.1
  refine hv_enter pn_X9 rfl ?_
  rcases tok_rel t1 (fun j hj => (t4 j hj).1) t5 hr with c | ⟨c1, c2⟩
  · have e : vl f n i = tvl f n (tq f n i) := if_pos (t4 i c).1
    refine hv_iload_n dX9_value_0 rfl ?_
    refine hv_if_lt (tgt := 21) dX9_value_1 (by decide) (fun c_1 => absurd c_1 ((nI_pos (by omega)))) (fun c_1 => ?_)
    refine hv_iload_n dX9_value_4 rfl ?_
    refine hv_aload_n dX9_value_5 rfl ?_
    refine hv_geti dX9_value_6 fl_X9_23 (by first | rfl | assumption) rfl ?_
    refine hv_icmp_ge (tgt := 21) dX9_value_9 (by decide) (fun c_9 => absurd c_9 ((by rw [t2]; exact nI_ge c (by omega)))) (fun c_9 => ?_)
    refine hv_aload_n dX9_value_12 rfl ?_
    refine hv_getr dX9_value_13 fl_X9_16 (by first | rfl | assumption) rfl (by first | rfl | assumption) ?_
    refine hv_iload_n dX9_value_16 rfl ?_
    refine hv_iald dX9_value_17 (by first | rfl | assumption) rfl (by first | assumption | omega) (by first | decide | assumption) ?_
    refine hv_goto (tgt := 22) dX9_value_18 (by decide) ?_
    refine hv_iret dX9_value_22 rfl ?_
    rw [(t4 i c).2.2.2, e]; exact ⟨rfl, rfl, rfl, rfl⟩
  · have e : vl f n i = 0 := if_neg c2
    refine hv_iload_n dX9_value_0 rfl ?_
    refine hv_if_lt (tgt := 21) dX9_value_1 (by decide) (fun c_1 => absurd c_1 ((nI_pos (by omega)))) (fun c_1 => ?_)
    refine hv_iload_n dX9_value_4 rfl ?_
    refine hv_aload_n dX9_value_5 rfl ?_
    refine hv_geti dX9_value_6 fl_X9_23 (by first | rfl | assumption) rfl ?_
    refine hv_icmp_ge (tgt := 21) dX9_value_9 (by decide) (fun c_9 => ?_) (fun c_9 => absurd ((by rw [t2]; exact nI_le (by omega) (by omega))) c_9)
    refine hv_iconst (v := 0) dX9_value_21 (by decide) ?_
    refine hv_iret dX9_value_22 rfl ?_
    rw [e]; exact ⟨rfl, rfl, rfl, rfl⟩
theorem c_sameName {n i j : Nat} {f : hF} (hf : σ 2 = f) (hn : σ 1 1 = nI n) (hn2 : n ≤ 2000) (ht : tokC f n σ) (hri : rel f n i) (hrj : rel f n j) (hki : kd f n i = 23) (hkj : kd f n j = 23) : hCal G (m_X9_sameName (hEq (some (.int (bI (decide (dg f n i = dg f n j))))) (rr 38 51 x y) σ τ)) [.ref (hgA G 3), .int (nI i), .int (nI j)] shp (rr 38 51 x y) σ τ := by
  obtain ⟨i1, i2, i3, i4⟩ := kd_name hki
  obtain ⟨j1, j2, j3, j4⟩ := kd_name hkj
  have hli : ∀ a, a < vl f n i → tq f n i + a < n ∧ isLt (bN f (tq f n i + a)) = true := fun a ha => rn_all isLt f 2000 _ a (by rw [← i3]; exact ha)
  have hlj : ∀ a, a < vl f n j → tq f n j + a < n ∧ isLt (bN f (tq f n j + a)) = true := fun a ha => rn_all isLt f 2000 _ a (by rw [← j3]; exact ha)
  have hde : dg f n i = dg f n j ↔ (vl f n i = vl f n j ∧ ∀ a, a < vl f n i → bN f (tq f n i + a) = bN f (tq f n j + a)) := by
    constructor
    · intro e; exact dgs_inj f _ _ _ _ (fun a ha => (hli a ha).2) (fun a ha => (hlj a ha).2) e
    · rintro ⟨e1, e2⟩; unfold dg; rw [← e1]; exact dgs_eq f _ _ _ e2
  refine hv_enter pn_X9 rfl ?_
  have loop : ∀ k a s, a + k = vl f n i → ((s = 1 ∧ vl f n i = vl f n j ∧ ∀ b, b < a → bN f (tq f n i + b) = bN f (tq f n j + b)) ∨ (s = 0 ∧ ¬ dg f n i = dg f n j)) → hV G (m_X9_sameName (hEq (some (.int (bI (decide (dg f n i = dg f n j))))) (rr 38 51 x y) σ τ)) 0 0 shp 25 [some (.ref (hgA G 3)), some (.int (nI i)), some (.int (nI j)), some (.int (nI (vl f n i))), some (.int s), some (.int (nI a))] [] (rr 38 51 x y) σ τ := by
    intro k
    induction k with
    | zero =>
      intro a s hi hs
      obtain rfl : a = vl f n i := by omega
      refine hv_iload dX9_sameName_25 rfl ?_
      refine hv_iload_n dX9_sameName_27 rfl ?_
      refine hv_icmp_ge (tgt := 82) dX9_sameName_28 (by decide) (fun c_28 => ?_) (fun c_28 => absurd ((nI_le (Nat.le_refl _) (by omega))) c_28)
      refine hv_iload dX9_sameName_82 rfl ?_
      refine hv_zret dX9_sameName_84 rfl (by rcases hs with ⟨rfl, _⟩ | ⟨rfl, _⟩; exact Or.inr rfl; exact Or.inl rfl) ?_
      rcases hs with ⟨rfl, h2⟩ | ⟨rfl, h2⟩
      · rw [decide_eq_true (hde.mpr h2)]; exact ⟨rfl, rfl, rfl, rfl⟩
      · rw [decide_eq_false h2]; exact ⟨rfl, rfl, rfl, rfl⟩
    | succ k ih =>
      intro a s hi hs
      rcases hs with ⟨rfl, h1, h2⟩ | ⟨rfl, h2⟩
      · have ha1 := (hli a (by omega)).1
        have ha2 := (hlj a (by omega)).1
        have hb1 := bN_lt f (tq f n i + a)
        have hb2 := bN_lt f (tq f n j + a)
        refine hv_iload dX9_sameName_25 rfl ?_
        refine hv_iload_n dX9_sameName_27 rfl ?_
        refine hv_icmp_ge (tgt := 82) dX9_sameName_28 (by decide) (fun c_28 => absurd c_28 ((nI_ge (by omega) (by omega)))) (fun c_28 => ?_)
        refine hv_iload dX9_sameName_31 rfl ?_
        refine hv_if_eq (tgt := 82) dX9_sameName_33 (by decide) (fun c_33 => absurd c_33 ((by decide))) (fun c_33 => ?_)
        refine hv_aload_n dX9_sameName_36 rfl ?_
        refine hv_getr dX9_sameName_37 fl_X9_19 (by first | rfl | assumption) rfl (by first | rfl | assumption) ?_
        refine hv_aload_n dX9_sameName_40 rfl ?_
        refine hv_iload_n dX9_sameName_41 rfl ?_
        refine hv_cv1 (c_placeOf ht hri) dX9_sameName_42 ml_X9_47 mk_X9_placeOf (by first | rfl | assumption) rfl rfl rfl rfl rfl ?_
        rintro _ _ _ _ ⟨rfl, rfl, rfl, rfl⟩
        refine hv_iload dX9_sameName_45 rfl ?_
        refine hv_iadd dX9_sameName_47 ?_
        rw [nI_add]
        refine hv_cv1 (c_sign (f := f) (n := n) hf hn hn2 (by omega)) dX9_sameName_48 ml_X9_50 mk_X7_sign (by first | rfl | assumption) rfl rfl rfl rfl rfl ?_
        rintro _ _ _ _ ⟨rfl, rfl, rfl, rfl⟩
        rw [show sgI f n (tq f n i + a) = nI (bN f (tq f n i + a)) from if_pos ha1]
        refine hv_aload_n dX9_sameName_51 rfl ?_
        refine hv_getr dX9_sameName_52 fl_X9_19 (by first | rfl | assumption) rfl (by first | rfl | assumption) ?_
        refine hv_aload_n dX9_sameName_55 rfl ?_
        refine hv_iload_n dX9_sameName_56 rfl ?_
        refine hv_cv1 (c_placeOf ht hrj) dX9_sameName_57 ml_X9_47 mk_X9_placeOf (by first | rfl | assumption) rfl rfl rfl rfl rfl ?_
        rintro _ _ _ _ ⟨rfl, rfl, rfl, rfl⟩
        refine hv_iload dX9_sameName_60 rfl ?_
        refine hv_iadd dX9_sameName_62 ?_
        rw [nI_add]
        refine hv_cv1 (c_sign (f := f) (n := n) hf hn hn2 (by omega)) dX9_sameName_63 ml_X9_50 mk_X7_sign (by first | rfl | assumption) rfl rfl rfl rfl rfl ?_
        rintro _ _ _ _ ⟨rfl, rfl, rfl, rfl⟩
        rw [show sgI f n (tq f n j + a) = nI (bN f (tq f n j + a)) from if_pos ha2]
        refine hv_icmp_ne (tgt := 73) dX9_sameName_66 (by decide) (fun c_66 => ?_) (fun c_66 => ?_)
        · refine hv_iconst (v := 0) dX9_sameName_73 (by decide) ?_
          refine hv_istore dX9_sameName_74 rfl rfl ?_
          refine hv_iinc dX9_sameName_76 rfl (nI_1 a) rfl rfl ?_
          refine hv_goto (tgt := 25) dX9_sameName_79 (by decide) ?_
          first
            | exact ih (a + 1) 1 (by omega) (Or.inl ⟨rfl, h1, fun b hb => by
                by_cases e : b = a
                · subst e; exact (nI_eq (by omega) (by omega)).mp c_66
                · exact h2 b (by omega)⟩)
            | exact ih (a + 1) 0 (by omega) (Or.inr ⟨rfl, fun q => c_66 (by rw [(hde.mp q).2 a (by omega)])⟩)
        · refine hv_iconst (v := 1) dX9_sameName_69 (by decide) ?_
          refine hv_goto (tgt := 74) dX9_sameName_70 (by decide) ?_
          refine hv_istore dX9_sameName_74 rfl rfl ?_
          refine hv_iinc dX9_sameName_76 rfl (nI_1 a) rfl rfl ?_
          refine hv_goto (tgt := 25) dX9_sameName_79 (by decide) ?_
          first
            | exact ih (a + 1) 1 (by omega) (Or.inl ⟨rfl, h1, fun b hb => by
                by_cases e : b = a
                · subst e; exact (nI_eq (by omega) (by omega)).mp c_66
                · exact h2 b (by omega)⟩)
            | exact ih (a + 1) 0 (by omega) (Or.inr ⟨rfl, fun q => c_66 (by rw [(hde.mp q).2 a (by omega)])⟩)
      · skip
        refine hv_iload dX9_sameName_25 rfl ?_
        refine hv_iload_n dX9_sameName_27 rfl ?_
        refine hv_icmp_ge (tgt := 82) dX9_sameName_28 (by decide) (fun c_28 => absurd c_28 ((nI_ge (by omega) (by omega)))) (fun c_28 => ?_)
        refine hv_iload dX9_sameName_31 rfl ?_
        refine hv_if_eq (tgt := 82) dX9_sameName_33 (by decide) (fun c_33 => ?_) (fun c_33 => absurd (rfl) c_33)
        refine hv_iload dX9_sameName_82 rfl ?_
        refine hv_zret dX9_sameName_84 rfl (by first | exact Or.inl rfl | exact Or.inr rfl | assumption) ?_
        rw [decide_eq_false h2]; exact ⟨rfl, rfl, rfl, rfl⟩
  refine hv_aload_n dX9_sameName_0 rfl ?_
  refine hv_iload_n dX9_sameName_1 rfl ?_
  refine hv_cv1 (c_tvalue ht hri) dX9_sameName_2 ml_X9_43 mk_X9_value (by first | rfl | assumption) rfl rfl rfl rfl rfl ?_
  rintro _ _ _ _ ⟨rfl, rfl, rfl, rfl⟩
  refine hv_istore_n dX9_sameName_5 rfl rfl ?_
  refine hv_iload_n dX9_sameName_6 rfl ?_
  refine hv_aload_n dX9_sameName_7 rfl ?_
  refine hv_iload_n dX9_sameName_8 rfl ?_
  refine hv_cv1 (c_tvalue ht hrj) dX9_sameName_9 ml_X9_43 mk_X9_value (by first | rfl | assumption) rfl rfl rfl rfl rfl ?_
  rintro _ _ _ _ ⟨rfl, rfl, rfl, rfl⟩
  refine hv_icmp_ne (tgt := 19) dX9_sameName_12 (by decide) (fun c_12 => ?_) (fun c_12 => ?_)
  · have hne : ¬ vl f n i = vl f n j := fun q => c_12 (by rw [q])
    refine hv_iconst (v := 0) dX9_sameName_19 (by decide) ?_
    refine hv_istore dX9_sameName_20 rfl rfl ?_
    refine hv_iconst (v := 0) dX9_sameName_22 (by decide) ?_
    refine hv_istore dX9_sameName_23 rfl rfl ?_
    first
      | exact loop (vl f n i) 0 1 (by omega) (Or.inl ⟨rfl, heq, fun b hb => absurd hb (by omega)⟩)
      | exact loop (vl f n i) 0 0 (by omega) (Or.inr ⟨rfl, fun q => hne (hde.mp q).1⟩)
  · have heq : vl f n i = vl f n j := (nI_eq (by omega) (by omega)).mp c_12
    refine hv_iconst (v := 1) dX9_sameName_15 (by decide) ?_
    refine hv_goto (tgt := 20) dX9_sameName_16 (by decide) ?_
    refine hv_istore dX9_sameName_20 rfl rfl ?_
    refine hv_iconst (v := 0) dX9_sameName_22 (by decide) ?_
    refine hv_istore dX9_sameName_23 rfl rfl ?_
    first
      | exact loop (vl f n i) 0 1 (by omega) (Or.inl ⟨rfl, heq, fun b hb => absurd hb (by omega)⟩)
      | exact loop (vl f n i) 0 0 (by omega) (Or.inr ⟨rfl, fun q => hne (hde.mp q).1⟩)
end S69

