theorem keyW_lt : ∀ w, w < 23 → keyW w < 2 ^ 60 := by decide +kernel
theorem kap_w {w : Nat} (h : w < 23) : kap w = 20 + w := if_pos h
/-- the first m tokens are there -/
def recM (f : hF) (n m : Nat) (σ : hS) (τ : hT) : Prop := ∀ i, i < m → tq f n i < n ∧ σ 67 i = nI (kap (kd f n i)) ∧ σ 68 i = nI (tq f n i) ∧ (kd f n i = 24 → σ 69 i = nI (vl f n i)) ∧ (kd f n i = 23 → τ 70 i = lN (dg f n i))
theorem recM_of {f : hF} {n m : Nat} {σ σ' : hS} {τ τ' : hT} (h : recM f n m σ τ) (h1 : σ' 67 = σ 67) (h2 : σ' 68 = σ 68) (h3 : σ' 69 = σ 69) (h4 : τ' 70 = τ 70) : recM f n m σ' τ' := by
  intro i hi; rw [h1, h2, h3, h4]; exact h i hi
theorem recM_s {f : hF} {n m : Nat} {k p v : Int32} {nm : Int64} {σ σ' : hS} {τ τ' : hT} (h : recM f n m σ τ) (ht : pTk m k p v nm σ τ σ' τ') (hq : tq f n m < n) (hk : k = nI (kap (kd f n m))) (hp : p = nI (tq f n m)) (hv : kd f n m = 24 → v = nI (vl f n m)) (hnm : kd f n m = 23 → nm = lN (dg f n m)) : recM f n (m + 1) σ' τ' := by
  obtain ⟨t1, t2, t3, t4, t5⟩ := ht
  intro i hi
  rw [t1, t2, t3, t4]
  by_cases e : i = m
  · subst e
    rw [pk_us, pk_us, pk_us, pk_uLs]
    exact ⟨hq, hk, hp, hv, hnm⟩
  · rw [pk_un e, pk_un e, pk_un e, pk_uLn e]
    exact h i (by omega)
section S71
variable {G : hGl} {σ : hS} {τ : hT} {x y : Option Nat}
set_option maxRecDepth 100000 in
theorem d_cut {n : Nat} {f : hF} (hf : ∀ i, i < n → σ 66 i = f i) (hn : σ 64 4 = nI n) (hn2 : n ≤ 2000) (hkey : ∀ k, k < 23 → τ 71 k = lN (keyW k)) : hCal G (m_X12_cut (hQt [64, 67, 68, 69] [70] none (rr 38 51 x y) σ τ (fun σ' τ' => tokM f n σ' τ' ∧ ∀ j, j ≠ 10 → σ' 64 j = σ 64 j))) [.ref (hgA G 64)] shp (rr 38 51 x y) σ τ := by
  refine hv_enter pn_X12 rfl ?_
  generalize hQ : hQt [64, 67, 68, 69] [70] none (rr 38 51 x y) σ τ (fun σ' τ' => tokM f n σ' τ' ∧ ∀ j, j ≠ 10 → σ' 64 j = σ 64 j) = Q
  have letl : ∀ (σ' : hS) (τ' : hT) p (c2 : Int32), (∀ i, i < n → σ' 66 i = f i) → σ' 64 4 = nI n → p < n → (hV G (m_X12_cut Q) 0 0 shp 124 [some (.ref (hgA G 64)), some (.int (nI p)), some (.int c2), some (.int (nI (rn isLt f n 2000 p))), some (.long (lN (dgs f p (min (rn isLt f n 2000 p) 8)))), none, none, none] [] (rr 38 51 x y) σ' τ') → ∀ k a, a + k = rn isLt f n 2000 p → hV G (m_X12_cut Q) 0 0 shp 85 [some (.ref (hgA G 64)), some (.int (nI p)), some (.int c2), some (.int (nI a)), some (.long (lN (dgs f p (min a 8)))), none, none, none] [] (rr 38 51 x y) σ' τ' := by
    intro σ' τ' p c2 e66 e4 hp kk k
    have hrl := (rn_le isLt f (n := n) 2000 p).1
    induction k with
    | zero =>
      intro a ha
      have hra := rn_at isLt f (n := n) (k := 2000) (p := p) (i := a) (by omega) (by omega)
      obtain rfl : a = rn isLt f n 2000 p := by omega
      refine hv_aload_n dX12_cut_85 rfl ?_
      refine hv_iload_n dX12_cut_86 rfl ?_
      refine hv_iload_n dX12_cut_87 rfl ?_
      refine hv_iadd dX12_cut_88 ?_
      rw [nI_add]
      refine hv_cv1 (d_byteAt (f := f) e66 e4 hn2 (by omega)) dX12_cut_89 ml_X12_184 mk_X12_byteAt (by first | rfl | assumption) rfl rfl rfl rfl rfl ?_
      rintro _ _ _ _ ⟨rfl, rfl, rfl, rfl⟩
      refine hv_cs1 (d_isLetter) dX12_cut_92 ml_X12_192 mk_X12_isLetter rfl rfl rfl ?_
      rintro _ _ _ _ ⟨rfl, rfl, rfl, rfl⟩
      rw [show inI 97 122 (bzI f n (p + rn isLt f n 2000 p)) = tb isLt f n (p + rn isLt f n 2000 p) from inz_tb (lo := 97) (hi := 122) (fun _ => rfl) (by decide) (by decide) (by decide), show tb isLt f n (p + rn isLt f n 2000 p) = false from Bool.eq_false_iff.mpr (fun q => by have := hra.mp (tb_t.mp q); omega)]
      refine hv_if_eq (tgt := 124) dX12_cut_95 (by decide) (fun c_95 => ?_) (fun c_95 => absurd ((show bI false = 0 by decide)) c_95)
      exact kk
    | succ k ih =>
      intro a ha
      have hra := (rn_at isLt f (n := n) (k := 2000) (p := p) (i := a) (by omega) (by omega)).mpr (by omega)
      have hlt := of_decide_eq_true hra.2
      have ebz : bzI f n (p + a) = nI (bN f (p + a)) := if_pos hra.1
      refine hv_aload_n dX12_cut_85 rfl ?_
      refine hv_iload_n dX12_cut_86 rfl ?_
      refine hv_iload_n dX12_cut_87 rfl ?_
      refine hv_iadd dX12_cut_88 ?_
      rw [nI_add]
      refine hv_cv1 (d_byteAt (f := f) e66 e4 hn2 (by omega)) dX12_cut_89 ml_X12_184 mk_X12_byteAt (by first | rfl | assumption) rfl rfl rfl rfl rfl ?_
      rintro _ _ _ _ ⟨rfl, rfl, rfl, rfl⟩
      refine hv_cs1 (d_isLetter) dX12_cut_92 ml_X12_192 mk_X12_isLetter rfl rfl rfl ?_
      rintro _ _ _ _ ⟨rfl, rfl, rfl, rfl⟩
      rw [show inI 97 122 (bzI f n (p + a)) = tb isLt f n (p + a) from inz_tb (lo := 97) (hi := 122) (fun _ => rfl) (by decide) (by decide) (by decide), show tb isLt f n (p + a) = true from tb_t.mpr hra]
      refine hv_if_eq (tgt := 124) dX12_cut_95 (by decide) (fun c_95 => absurd c_95 ((show ¬ bI true = 0 by decide))) (fun c_95 => ?_)
      refine hv_iload_n dX12_cut_98 rfl ?_
      refine hv_bipush (v := 8) dX12_cut_99 (by decide) ?_
      refine hv_icmp_ge (tgt := 118) dX12_cut_101 (by decide) (fun c_101 => ?_) (fun c_101 => ?_)
      · have h8 : 8 ≤ a := (nI_leI (a := 8) (by decide) (by omega)).mp c_101
        refine hv_iinc dX12_cut_118 rfl (nI_1 a) rfl rfl ?_
        refine hv_goto (tgt := 85) dX12_cut_121 (by decide) ?_
        first
          | exact ih (a + 1) (by omega)
          | (have hh := ih (a + 1) (by omega); rw [show min (a + 1) 8 = min a 8 by omega] at hh; exact hh)
      · have h8 : a < 8 := (nI_ltI (b := 8) (by omega) (by decide)).mp (Int32.not_le.mp c_101)
        refine hv_lload dX12_cut_104 rfl ?_
        refine hv_aload_n dX12_cut_106 rfl ?_
        refine hv_iload_n dX12_cut_107 rfl ?_
        refine hv_iload_n dX12_cut_108 rfl ?_
        refine hv_iadd dX12_cut_109 ?_
        rw [nI_add]
        refine hv_cv1 (d_byteAt (f := f) e66 e4 hn2 (by omega)) dX12_cut_110 ml_X12_184 mk_X12_byteAt (by first | rfl | assumption) rfl rfl rfl rfl rfl ?_
        rintro _ _ _ _ ⟨rfl, rfl, rfl, rfl⟩
        rw [ebz]
        refine hv_cs2 (d_appends (Or.inr hlt)) dX12_cut_113 ml_X12_177 mk_X12_appends rfl rfl rfl ?_
        rintro _ _ _ _ ⟨rfl, rfl, rfl, rfl⟩
        rw [show apN (dgs f p (min a 8)) (bN f (p + a)) = dgs f p (min (a + 1) 8) by rw [apN, if_neg (by omega), show min a 8 = a by omega, show min (a + 1) 8 = a + 1 by omega, dgs]]
        refine hv_lstore dX12_cut_116 rfl rfl ?_
        refine hv_iinc dX12_cut_118 rfl (nI_1 a) rfl rfl ?_
        refine hv_goto (tgt := 85) dX12_cut_121 (by decide) ?_
        first
          | exact ih (a + 1) (by omega)
          | (have hh := ih (a + 1) (by omega); rw [show min (a + 1) 8 = min a 8 by omega] at hh; exact hh)
  have keyl : ∀ (σ' : hS) (τ' : hT) p (c2 : Int32) R D, D < 2 ^ 60 → (∀ k, k < 23 → τ' 71 k = lN (keyW k)) → (hV G (m_X12_cut Q) 0 0 shp 179 [some (.ref (hgA G 64)), some (.int (nI p)), some (.int c2), some (.int (nI R)), some (.long (lN D)), none, some (.int (nI (kap (wkF D 23)))), some (.int (nI 23))] [] (rr 38 51 x y) σ' τ') → ∀ k a, a + k = 23 → hV G (m_X12_cut Q) 0 0 shp 146 [some (.ref (hgA G 64)), some (.int (nI p)), some (.int c2), some (.int (nI R)), some (.long (lN D)), none, some (.int (nI (kap (wkF D a)))), some (.int (nI a))] [] (rr 38 51 x y) σ' τ' := by
    intro σ' τ' p c2 R D hD hk71 kk k
    induction k with
    | zero =>
      intro a ha
      obtain rfl : a = 23 := by omega
      refine hv_iload dX12_cut_146 rfl ?_
      refine hv_bipush (v := 23) dX12_cut_148 (by decide) ?_
      refine hv_icmp_ge (tgt := 179) dX12_cut_150 (by decide) (fun c_150 => ?_) (fun c_150 => absurd ((by decide)) c_150)
      exact kk
    | succ k ih =>
      intro a ha
      have hkl := keyW_lt a (by omega)
      refine hv_iload dX12_cut_146 rfl ?_
      refine hv_bipush (v := 23) dX12_cut_148 (by decide) ?_
      refine hv_icmp_ge (tgt := 179) dX12_cut_150 (by decide) (fun c_150 => absurd c_150 ((nI_ge (b := 23) (by omega) (by decide)))) (fun c_150 => ?_)
      refine hv_aload_n dX12_cut_153 rfl ?_
      refine hv_getr dX12_cut_154 fl_X12_34 (by first | rfl | assumption) rfl (by first | rfl | assumption) ?_
      refine hv_iload dX12_cut_157 rfl ?_
      refine hv_lald dX12_cut_159 (by first | rfl | assumption) (j := a) rfl (by omega) (by first | decide | assumption) ?_
      refine hv_lload dX12_cut_160 rfl ?_
      refine hv_lcmp dX12_cut_162 ?_
      rw [hk71 a (by omega)]
      refine hv_if_ne (tgt := 173) dX12_cut_163 (by decide) (fun c_163 => ?_) (fun c_163 => ?_)
      · have hne : ¬ keyW a = D := fun q => c_163 ((lg_cmp_eq _ _).mpr (by rw [q]))
        refine hv_iinc dX12_cut_173 rfl (nI_1 a) rfl rfl ?_
        refine hv_goto (tgt := 146) dX12_cut_176 (by decide) ?_
        have hh := ih (a + 1) (by omega)
        first
          | (rw [wkF, if_pos heq, kap_w (by omega)] at hh; exact hh)
          | (rw [wkF, if_neg hne] at hh; exact hh)
      · have heq : keyW a = D := (pk_lEQ (by omega) (by omega)).mp ((lg_cmp_eq _ _).mp c_163)
        refine hv_bipush (v := 20) dX12_cut_166 (by decide) ?_
        refine hv_iload dX12_cut_168 rfl ?_
        refine hv_iadd dX12_cut_170 ?_
        rw [show (20 : Int32) + nI a = nI (20 + a) from nI_add 20 a]
        refine hv_istore dX12_cut_171 rfl rfl ?_
        refine hv_iinc dX12_cut_173 rfl (nI_1 a) rfl rfl ?_
        refine hv_goto (tgt := 146) dX12_cut_176 (by decide) ?_
        have hh := ih (a + 1) (by omega)
        first
          | (rw [wkF, if_pos heq, kap_w (by omega)] at hh; exact hh)
          | (rw [wkF, if_neg hne] at hh; exact hh)
  have digl : ∀ (σ' : hS) (τ' : hT) p (c2 : Int32), (∀ i, i < n → σ' 66 i = f i) → σ' 64 4 = nI n → p < n → (hV G (m_X12_cut Q) 0 0 shp 250 [some (.ref (hgA G 64)), some (.int (nI p)), some (.int c2), some (.int (nI (rn isDg f n 2000 p))), some (.int (nI (num f p (min (rn isDg f n 2000 p) 4)))), none, none, none] [] (rr 38 51 x y) σ' τ') → ∀ k a, a + k = rn isDg f n 2000 p → hV G (m_X12_cut Q) 0 0 shp 208 [some (.ref (hgA G 64)), some (.int (nI p)), some (.int c2), some (.int (nI a)), some (.int (nI (num f p (min a 4)))), none, none, none] [] (rr 38 51 x y) σ' τ' := by
    intro σ' τ' p c2 e66 e4 hp kk k
    have hrl := (rn_le isDg f (n := n) 2000 p).1
    induction k with
    | zero =>
      intro a ha
      have hra := rn_at isDg f (n := n) (k := 2000) (p := p) (i := a) (by omega) (by omega)
      obtain rfl : a = rn isDg f n 2000 p := by omega
      refine hv_aload_n dX12_cut_208 rfl ?_
      refine hv_iload_n dX12_cut_209 rfl ?_
      refine hv_iload_n dX12_cut_210 rfl ?_
      refine hv_iadd dX12_cut_211 ?_
      rw [nI_add]
      refine hv_cv1 (d_byteAt (f := f) e66 e4 hn2 (by omega)) dX12_cut_212 ml_X12_184 mk_X12_byteAt (by first | rfl | assumption) rfl rfl rfl rfl rfl ?_
      rintro _ _ _ _ ⟨rfl, rfl, rfl, rfl⟩
      refine hv_cs1 (d_isDigit) dX12_cut_215 ml_X12_196 mk_X12_isDigit rfl rfl rfl ?_
      rintro _ _ _ _ ⟨rfl, rfl, rfl, rfl⟩
      rw [show inI 48 57 (bzI f n (p + rn isDg f n 2000 p)) = tb isDg f n (p + rn isDg f n 2000 p) from inz_tb (lo := 48) (hi := 57) (fun _ => rfl) (by decide) (by decide) (by decide), show tb isDg f n (p + rn isDg f n 2000 p) = false from Bool.eq_false_iff.mpr (fun q => by have := hra.mp (tb_t.mp q); omega)]
      refine hv_if_eq (tgt := 250) dX12_cut_218 (by decide) (fun c_218 => ?_) (fun c_218 => absurd ((show bI false = 0 by decide)) c_218)
      exact kk
    | succ k ih =>
      intro a ha
      have hra := (rn_at isDg f (n := n) (k := 2000) (p := p) (i := a) (by omega) (by omega)).mpr (by omega)
      have hlt := of_decide_eq_true hra.2
      have ebz : bzI f n (p + a) = nI (bN f (p + a)) := if_pos hra.1
      refine hv_aload_n dX12_cut_208 rfl ?_
      refine hv_iload_n dX12_cut_209 rfl ?_
      refine hv_iload_n dX12_cut_210 rfl ?_
      refine hv_iadd dX12_cut_211 ?_
      rw [nI_add]
      refine hv_cv1 (d_byteAt (f := f) e66 e4 hn2 (by omega)) dX12_cut_212 ml_X12_184 mk_X12_byteAt (by first | rfl | assumption) rfl rfl rfl rfl rfl ?_
      rintro _ _ _ _ ⟨rfl, rfl, rfl, rfl⟩
      refine hv_cs1 (d_isDigit) dX12_cut_215 ml_X12_196 mk_X12_isDigit rfl rfl rfl ?_
      rintro _ _ _ _ ⟨rfl, rfl, rfl, rfl⟩
      rw [show inI 48 57 (bzI f n (p + a)) = tb isDg f n (p + a) from inz_tb (lo := 48) (hi := 57) (fun _ => rfl) (by decide) (by decide) (by decide), show tb isDg f n (p + a) = true from tb_t.mpr hra]
      refine hv_if_eq (tgt := 250) dX12_cut_218 (by decide) (fun c_218 => absurd c_218 ((show ¬ bI true = 0 by decide))) (fun c_218 => ?_)
      refine hv_iload_n dX12_cut_221 rfl ?_
      refine hv_iconst (v := 4) dX12_cut_222 (by decide) ?_
      refine hv_icmp_ge (tgt := 244) dX12_cut_223 (by decide) (fun c_223 => ?_) (fun c_223 => ?_)
      · have h4 : 4 ≤ a := (nI_leI (a := 4) (by decide) (by omega)).mp c_223
        refine hv_iinc dX12_cut_244 rfl (nI_1 a) rfl rfl ?_
        refine hv_goto (tgt := 208) dX12_cut_247 (by decide) ?_
        first
          | exact ih (a + 1) (by omega)
          | (have hh := ih (a + 1) (by omega); rw [show min (a + 1) 4 = min a 4 by omega] at hh; exact hh)
      · have h4 : a < 4 := (nI_ltI (b := 4) (by omega) (by decide)).mp (Int32.not_le.mp c_223)
        refine hv_bipush (v := 10) dX12_cut_226 (by decide) ?_
        refine hv_iload dX12_cut_228 rfl ?_
        refine hv_imul dX12_cut_230 ?_
        rw [show (10 : Int32) * nI (num f p (min a 4)) = nI (10 * num f p (min a 4)) from pk_mul 10 _]
        refine hv_aload_n dX12_cut_231 rfl ?_
        refine hv_iload_n dX12_cut_232 rfl ?_
        refine hv_iload_n dX12_cut_233 rfl ?_
        refine hv_iadd dX12_cut_234 ?_
        rw [nI_add]
        refine hv_cv1 (d_byteAt (f := f) e66 e4 hn2 (by omega)) dX12_cut_235 ml_X12_184 mk_X12_byteAt (by first | rfl | assumption) rfl rfl rfl rfl rfl ?_
        rintro _ _ _ _ ⟨rfl, rfl, rfl, rfl⟩
        rw [ebz]
        refine hv_iadd dX12_cut_238 ?_
        rw [nI_add]
        refine hv_bipush (v := 48) dX12_cut_239 (by decide) ?_
        refine hv_isub dX12_cut_241 ?_
        rw [show nI (10 * num f p (min a 4) + bN f (p + a)) - 48 = nI (10 * num f p (min a 4) + bN f (p + a) - 48) from pk_sub (b := 48) (by omega), show 10 * num f p (min a 4) + bN f (p + a) - 48 = num f p (min (a + 1) 4) by rw [show min a 4 = a by omega, show min (a + 1) 4 = a + 1 by omega, num]; omega]
        refine hv_istore dX12_cut_242 rfl rfl ?_
        refine hv_iinc dX12_cut_244 rfl (nI_1 a) rfl rfl ?_
        refine hv_goto (tgt := 208) dX12_cut_247 (by decide) ?_
        first
          | exact ih (a + 1) (by omega)
          | (have hh := ih (a + 1) (by omega); rw [show min (a + 1) 4 = min a 4 by omega] at hh; exact hh)
  have main : ∀ k p m (σ' : hS) (τ' : hT), n - p ≤ k → p ≤ n → m ≤ 401 → nb f n 2000 p = tq f n m → (∀ c, c ∉ [64, 67, 68, 69] → σ' c = σ c) → (∀ c, c ∉ [70] → τ' c = τ c) → (∀ j, j ≠ 10 → σ' 64 j = σ 64 j) → σ' 64 10 = nI m → recM f n m σ' τ' → hV G (m_X12_cut Q) 0 0 shp 7 [some (.ref (hgA G 64)), some (.int (nI p)), none, none, none, none, none, none] [] (rr 38 51 x y) σ' τ' := by
    intro k
    induction k with
    | zero =>
      intro p m σ' τ' hk hpn hm hnb hσ hτ h64 h10 hrec
      obtain rfl : p = n := by omega
      rw [nb_end] at hnb
      have e66 : ∀ i, i < p → σ' 66 i = f i := fun i hi => by rw [hσ 66 (by decide)]; exact hf i hi
      have e4 : σ' 64 4 = nI p := by rw [h64 4 (by decide)]; exact hn
      refine hv_aload_n dX12_cut_7 rfl ?_
      refine hv_geti dX12_cut_8 fl_X12_181 (by first | rfl | assumption) rfl ?_
      refine hv_sipush (v := 400) dX12_cut_11 (by decide) ?_
      rw [h10]
      refine hv_icmp_gt (tgt := 294) dX12_cut_14 (by decide) (fun c_14 => ?_) (fun c_14 => ?_)
      · have hm4 : m = 401 := by have := (nI_ltI (a := 400) (by decide) (by omega)).mp c_14; omega
        refine hv_vret dX12_cut_294 rfl ?_
        rw [← hQ]
        exact ⟨rfl, rfl, hσ, hτ, fun i hr => (hrec i (by have := hr.1; omega)).2, h64⟩
      · have hm4 : m ≤ 400 := (nI_leI (b := 400) (by omega) (by decide)).mp (Int32.not_lt.mp c_14)
        refine hv_aload_n dX12_cut_17 rfl ?_
        refine hv_iload_n dX12_cut_18 rfl ?_
        refine hv_cv1 (d_byteAt (f := f) e66 e4 hn2 (by omega)) dX12_cut_19 ml_X12_184 mk_X12_byteAt (by first | rfl | assumption) rfl rfl rfl rfl rfl ?_
        rintro _ _ _ _ ⟨rfl, rfl, rfl, rfl⟩
        refine hv_istore_n dX12_cut_22 rfl rfl ?_
        refine hv_iload_n dX12_cut_23 rfl ?_
        refine hv_aload_n dX12_cut_24 rfl ?_
        refine hv_geti dX12_cut_25 fl_X12_172 (by first | rfl | assumption) rfl ?_
        rw [e4]
        refine hv_icmp_lt (tgt := 43) dX12_cut_28 (by decide) (fun c_28 => absurd c_28 ((nI_nlt (Nat.le_refl _) (by omega)))) (fun c_28 => ?_)
        refine hv_aload_n dX12_cut_31 rfl ?_
        refine hv_iconst (v := 0) dX12_cut_32 (by decide) ?_
        refine hv_aload_n dX12_cut_33 rfl ?_
        refine hv_geti dX12_cut_34 fl_X12_172 (by first | rfl | assumption) rfl ?_
        rw [e4]
        refine hv_iconst (v := 0) dX12_cut_37 (by decide) ?_
        refine hv_lconst (v := 0) dX12_cut_38 (by decide) ?_
        refine hv_cv4 (d_token h10 (by omega)) dX12_cut_39 ml_X12_188 mk_X12_token (by first | rfl | assumption) rfl rfl rfl rfl rfl ?_
        rintro _ _ σ1 τ1 ⟨rfl, rfl, q1, q2, t1, t2, t3, t4, t5⟩
        refine hv_vret dX12_cut_42 rfl ?_
        rw [← hQ]
        refine ⟨rfl, rfl, off_tr hσ q1 (by decide) (by decide), offT_tr hτ q2 (by decide) (by decide), fun i hr => ?_, fun j hj => by rw [t5, pk_un hj]; exact h64 j hj⟩
        have hk25 : kd f p m = 25 := kd_25.mpr (by omega)
        rw [t1, t2, t3, t4]
        by_cases e : i = m
        · subst e
          rw [pk_us, pk_us, pk_us, pk_uLs, hk25, ← hnb]
          exact ⟨rfl, rfl, fun q => absurd q (by decide), fun q => absurd q (by decide)⟩
        · have hlt : i < m := by
            by_cases c : i < m
            · exact c
            · exact absurd hk25 (hr.2 m (by omega)).1
          rw [pk_un e, pk_un e, pk_un e, pk_uLn e]
          exact (hrec i hlt).2
    | succ k ih =>
      intro p m σ' τ' hk hpn hm hnb hσ hτ h64 h10 hrec
      have e66 : ∀ i, i < n → σ' 66 i = f i := fun i hi => by rw [hσ 66 (by decide)]; exact hf i hi
      have e4 : σ' 64 4 = nI n := by rw [h64 4 (by decide)]; exact hn
      by_cases hpe : p = n
      · exact ih p m σ' τ' (by omega) hpn hm hnb hσ hτ h64 h10 hrec
      · have hpl : p < n := by omega
        have hbl := bN_lt f p
        have ebz : bzI f n p = nI (bN f p) := if_pos hpl
        have htl := tln_pos (f := f) hpl
        have hl1 := (rn_le isLt f (n := n) 2000 p).1
        have hd1 := (rn_le isDg f (n := n) 2000 p).1
        have hdone : m = 401 → Q none (rr 38 51 x y) σ' τ' := fun hm4 => by
          rw [← hQ]
          exact ⟨rfl, rfl, hσ, hτ, fun i hr => (hrec i (by have := hr.1; omega)).2, h64⟩
        by_cases hb : isBl (bN f p) = true
        · have hnb2 : nb f n 2000 (p + 1) = tq f n m := by
            have e1 : nb f n 2000 p = nb f n 1999 (p + 1) := by rw [show (2000 : Nat) = 1999 + 1 from rfl, nb, if_pos ⟨hpl, hb⟩]
            rw [← hnb, e1]
            exact nb_fuel f 2000 1999 (p + 1) (by omega) (by omega)
          have hb2 : nI (bN f p) = 9 ∨ nI (bN f p) = 10 ∨ nI (bN f p) = 13 ∨ nI (bN f p) = 32 := by
            rcases of_decide_eq_true hb with q | q | q | q <;> rw [q] <;> decide
          refine hv_aload_n dX12_cut_7 rfl ?_
          refine hv_geti dX12_cut_8 fl_X12_181 (by first | rfl | assumption) rfl ?_
          refine hv_sipush (v := 400) dX12_cut_11 (by decide) ?_
          rw [h10]
          refine hv_icmp_gt (tgt := 294) dX12_cut_14 (by decide) (fun c_14 => ?_) (fun c_14 => ?_)
          · have hm4 : m = 401 := by have := (nI_ltI (a := 400) (by decide) (by omega)).mp c_14; omega
            refine hv_vret dX12_cut_294 rfl ?_
            exact hdone hm4
          · refine hv_aload_n dX12_cut_17 rfl ?_
            refine hv_iload_n dX12_cut_18 rfl ?_
            refine hv_cv1 (d_byteAt (f := f) e66 e4 hn2 (by omega)) dX12_cut_19 ml_X12_184 mk_X12_byteAt (by first | rfl | assumption) rfl rfl rfl rfl rfl ?_
            rintro _ _ _ _ ⟨rfl, rfl, rfl, rfl⟩
            rw [ebz]
            refine hv_istore_n dX12_cut_22 rfl rfl ?_
            refine hv_iload_n dX12_cut_23 rfl ?_
            refine hv_aload_n dX12_cut_24 rfl ?_
            refine hv_geti dX12_cut_25 fl_X12_172 (by first | rfl | assumption) rfl ?_
            rw [e4]
            refine hv_icmp_lt (tgt := 43) dX12_cut_28 (by decide) (fun c_28 => ?_) (fun c_28 => absurd ((nI_lt hpl (by omega))) c_28)
            refine hv_iload_n dX12_cut_43 rfl ?_
            refine hv_bipush (v := 9) dX12_cut_44 (by decide) ?_
            refine hv_icmp_eq (tgt := 67) dX12_cut_46 (by decide) (fun c_46 => ?_) (fun c_46 => ?_)
            · refine hv_iinc dX12_cut_67 rfl (nI_1 p) rfl rfl ?_
              refine hv_goto (tgt := 291) dX12_cut_70 (by decide) ?_
              refine hv_goto (tgt := 7) dX12_cut_291 (by decide) ?_
              exact hv_drop 2 (ih (p + 1) m σ' τ' (by omega) (by omega) hm hnb2 hσ hτ h64 h10 hrec)
            · refine hv_iload_n dX12_cut_49 rfl ?_
              refine hv_bipush (v := 10) dX12_cut_50 (by decide) ?_
              refine hv_icmp_eq (tgt := 67) dX12_cut_52 (by decide) (fun c_52 => ?_) (fun c_52 => ?_)
              · refine hv_iinc dX12_cut_67 rfl (nI_1 p) rfl rfl ?_
                refine hv_goto (tgt := 291) dX12_cut_70 (by decide) ?_
                refine hv_goto (tgt := 7) dX12_cut_291 (by decide) ?_
                exact hv_drop 2 (ih (p + 1) m σ' τ' (by omega) (by omega) hm hnb2 hσ hτ h64 h10 hrec)
              · refine hv_iload_n dX12_cut_55 rfl ?_
                refine hv_bipush (v := 13) dX12_cut_56 (by decide) ?_
                refine hv_icmp_eq (tgt := 67) dX12_cut_58 (by decide) (fun c_58 => ?_) (fun c_58 => ?_)
                · refine hv_iinc dX12_cut_67 rfl (nI_1 p) rfl rfl ?_
                  refine hv_goto (tgt := 291) dX12_cut_70 (by decide) ?_
                  refine hv_goto (tgt := 7) dX12_cut_291 (by decide) ?_
                  exact hv_drop 2 (ih (p + 1) m σ' τ' (by omega) (by omega) hm hnb2 hσ hτ h64 h10 hrec)
                · refine hv_iload_n dX12_cut_61 rfl ?_
                  refine hv_bipush (v := 32) dX12_cut_62 (by decide) ?_
                  refine hv_icmp_ne (tgt := 73) dX12_cut_64 (by decide) (fun c_64 => ?_) (fun c_64 => ?_)
                  · exact absurd hb2 (fun q => by rcases q with q | q | q | q; exact c_46 q; exact c_52 q; exact c_58 q; exact c_64 q)
                  · refine hv_iinc dX12_cut_67 rfl (nI_1 p) rfl rfl ?_
                    refine hv_goto (tgt := 291) dX12_cut_70 (by decide) ?_
                    refine hv_goto (tgt := 7) dX12_cut_291 (by decide) ?_
                    exact hv_drop 2 (ih (p + 1) m σ' τ' (by omega) (by omega) hm hnb2 hσ hτ h64 h10 hrec)
        · have hnb2 : tq f n m = p := by
            rw [← hnb, show (2000 : Nat) = 1999 + 1 from rfl, nb, if_neg (fun q => hb q.2)]
          have hq : tq f n m < n := by rw [hnb2]; exact hpl
          have hkd : kd f n m = tkd f n p := by unfold kd; rw [if_pos hq, hnb2]
          have hvl : vl f n m = tvl f n p := by unfold vl; rw [if_pos hq, hnb2]
          have hbn : ¬ (nI (bN f p) = 9 ∨ nI (bN f p) = 10 ∨ nI (bN f p) = 13 ∨ nI (bN f p) = 32) := fun q => hb (decide_eq_true (by
            rcases q with q | q | q | q
            · exact Or.inl ((nI_eq (b := 9) (by omega) (by decide)).mp q)
            · exact Or.inr (Or.inl ((nI_eq (b := 10) (by omega) (by decide)).mp q))
            · exact Or.inr (Or.inr (Or.inl ((nI_eq (b := 13) (by omega) (by decide)).mp q)))
            · exact Or.inr (Or.inr (Or.inr ((nI_eq (b := 32) (by omega) (by decide)).mp q)))))
          have next : ∀ (σ1 : hS) (τ1 : hT) (k1 v : Int32) (nm : Int64) L, m ≤ 400 → (∀ c, c ∉ [64, 67, 68, 69] → σ1 c = σ' c) → (∀ c, c ∉ [70] → τ1 c = τ' c) → pTk m k1 (nI p) v nm σ' τ' σ1 τ1 → L = tln f n p → k1 = nI (kap (tkd f n p)) → (tkd f n p = 24 → v = nI (tvl f n p)) → (tkd f n p = 23 → nm = lN (dgs f p (tvl f n p))) → hV G (m_X12_cut Q) 0 0 shp 7 [some (.ref (hgA G 64)), some (.int (nI (p + L))), none, none, none, none, none, none] [] (rr 38 51 x y) σ1 τ1 := by
            intro σ1 τ1 k1 v nm L hm4 q1 q2 ht hL hk1 hv hnm
            subst hL
            have t5 := ht.2.2.2.2
            refine ih (p + tln f n p) (m + 1) σ1 τ1 (by omega) (by omega) (by omega) (by rw [tq, hnb2]) (off_tr hσ q1 (by decide) (by decide)) (offT_tr hτ q2 (by decide) (by decide)) (fun j hj => by rw [t5, pk_un hj]; exact h64 j hj) (by rw [t5, pk_us]) ?_
            refine recM_s hrec ht hq (by rw [hkd]; exact hk1) (by rw [hnb2]) (fun q => by rw [hvl]; exact hv (by rw [← hkd]; exact q)) (fun q => ?_)
            unfold dg
            rw [hnb2, hvl]
            exact hnm (by rw [← hkd]; exact q)
          refine hv_aload_n dX12_cut_7 rfl ?_
          refine hv_geti dX12_cut_8 fl_X12_181 (by first | rfl | assumption) rfl ?_
          refine hv_sipush (v := 400) dX12_cut_11 (by decide) ?_
          rw [h10]
          refine hv_icmp_gt (tgt := 294) dX12_cut_14 (by decide) (fun c_14 => ?_) (fun c_14 => ?_)
          · have hm4 : m = 401 := by have := (nI_ltI (a := 400) (by decide) (by omega)).mp c_14; omega
            refine hv_vret dX12_cut_294 rfl ?_
            exact hdone hm4
          · have hm4 : m ≤ 400 := (nI_leI (b := 400) (by omega) (by decide)).mp (Int32.not_lt.mp c_14)
            refine hv_aload_n dX12_cut_17 rfl ?_
            refine hv_iload_n dX12_cut_18 rfl ?_
            refine hv_cv1 (d_byteAt (f := f) e66 e4 hn2 (by omega)) dX12_cut_19 ml_X12_184 mk_X12_byteAt (by first | rfl | assumption) rfl rfl rfl rfl rfl ?_
            rintro _ _ _ _ ⟨rfl, rfl, rfl, rfl⟩
            rw [ebz]
            refine hv_istore_n dX12_cut_22 rfl rfl ?_
            refine hv_iload_n dX12_cut_23 rfl ?_
            refine hv_aload_n dX12_cut_24 rfl ?_
            refine hv_geti dX12_cut_25 fl_X12_172 (by first | rfl | assumption) rfl ?_
            rw [e4]
            refine hv_icmp_lt (tgt := 43) dX12_cut_28 (by decide) (fun c_28 => ?_) (fun c_28 => absurd ((nI_lt hpl (by omega))) c_28)
            refine hv_iload_n dX12_cut_43 rfl ?_
            refine hv_bipush (v := 9) dX12_cut_44 (by decide) ?_
            refine hv_icmp_eq (tgt := 67) dX12_cut_46 (by decide) (fun c_46 => absurd c_46 ((fun q => hbn (Or.inl q)))) (fun c_46 => ?_)
            refine hv_iload_n dX12_cut_49 rfl ?_
            refine hv_bipush (v := 10) dX12_cut_50 (by decide) ?_
            refine hv_icmp_eq (tgt := 67) dX12_cut_52 (by decide) (fun c_52 => absurd c_52 ((fun q => hbn (Or.inr (Or.inl q))))) (fun c_52 => ?_)
            refine hv_iload_n dX12_cut_55 rfl ?_
            refine hv_bipush (v := 13) dX12_cut_56 (by decide) ?_
            refine hv_icmp_eq (tgt := 67) dX12_cut_58 (by decide) (fun c_58 => absurd c_58 ((fun q => hbn (Or.inr (Or.inr (Or.inl q)))))) (fun c_58 => ?_)
            refine hv_iload_n dX12_cut_61 rfl ?_
            refine hv_bipush (v := 32) dX12_cut_62 (by decide) ?_
            refine hv_icmp_ne (tgt := 73) dX12_cut_64 (by decide) (fun c_64 => ?_) (fun c_64 => absurd c_64 ((fun q => hbn (Or.inr (Or.inr (Or.inr q))))))
            refine hv_iload_n dX12_cut_73 rfl ?_
            refine hv_cs1 (d_isLetter) dX12_cut_74 ml_X12_192 mk_X12_isLetter rfl rfl rfl ?_
            rintro _ _ _ _ ⟨rfl, rfl, rfl, rfl⟩
            rw [show inI 97 122 (nI (bN f p)) = isLt (bN f p) from decide_eq_decide.mpr (and_congr (nI_leI (a := 97) (by decide) (by omega)) (nI_leI (b := 122) (by omega) (by decide)))]
            refine hv_if_eq (tgt := 196) dX12_cut_77 (by decide) (fun c_77 => ?_) (fun c_77 => ?_)
            · refine hv_iload_n dX12_cut_196 rfl ?_
              refine hv_cs1 (d_isDigit) dX12_cut_197 ml_X12_196 mk_X12_isDigit rfl rfl rfl ?_
              rintro _ _ _ _ ⟨rfl, rfl, rfl, rfl⟩
              rw [show inI 48 57 (nI (bN f p)) = isDg (bN f p) from decide_eq_decide.mpr (and_congr (nI_leI (a := 48) (by decide) (by omega)) (nI_leI (b := 57) (by omega) (by decide)))]
              refine hv_if_eq (tgt := 275) dX12_cut_200 (by decide) (fun c_200 => ?_) (fun c_200 => ?_)
              · obtain ⟨a1, a2⟩ := tkd_sgn (n := n) (bI_0 c_77) (bI_0 c_200)
                have a3 : tln f n p = 1 := by rw [tln, if_pos hpl, if_neg (by rw [bI_0 c_77]; decide), if_neg (by rw [bI_0 c_200]; decide)]
                have a4 := sgn_ne (bN f p)
                refine hv_iload_n dX12_cut_275 rfl ?_
                refine hv_aload_n dX12_cut_276 rfl ?_
                refine hv_iload_n dX12_cut_277 rfl ?_
                refine hv_iload_n dX12_cut_278 rfl ?_
                refine hv_aload_n dX12_cut_279 rfl ?_
                refine hv_iload_n dX12_cut_280 rfl ?_
                refine hv_iconst (v := 1) dX12_cut_281 (by decide) ?_
                refine hv_iadd dX12_cut_282 ?_
                rw [nI_1]
                refine hv_cv1 (d_byteAt (f := f) e66 e4 hn2 (by omega)) dX12_cut_283 ml_X12_184 mk_X12_byteAt (by first | rfl | assumption) rfl rfl rfl rfl rfl ?_
                rintro _ _ _ _ ⟨rfl, rfl, rfl, rfl⟩
                refine hv_cv3 (d_sign hbl h10 (by omega)) dX12_cut_286 ml_X12_199 mk_X12_sign (by first | rfl | assumption) rfl rfl rfl rfl rfl ?_
                rintro _ _ σ1 τ1 ⟨rfl, rfl, q1, q2, ht⟩
                refine hv_iadd dX12_cut_289 ?_
                rw [nI_1]
                refine hv_istore_n dX12_cut_290 rfl rfl ?_
                refine hv_goto (tgt := 7) dX12_cut_291 (by decide) ?_
                exact hv_drop 2 (next σ1 τ1 _ _ _ 1 hm4 q1 q2 ht a3.symm (by rw [a1]) (fun q => absurd q (by rw [a1]; omega)) (fun q => absurd q (by rw [a1]; omega)))
              · obtain ⟨a1, a2⟩ := tkd_dig (n := n) (bI_0 c_77) (bI_1 c_200)
                have a3 : tln f n p = rn isDg f n 2000 p := by rw [tln, if_pos hpl, if_neg (by rw [bI_0 c_77]; decide), if_pos (bI_1 c_200)]
                refine hv_iconst (v := 0) dX12_cut_203 (by decide) ?_
                refine hv_istore_n dX12_cut_204 rfl rfl ?_
                refine hv_iconst (v := 0) dX12_cut_205 (by decide) ?_
                refine hv_istore dX12_cut_206 rfl rfl ?_
                refine digl σ' τ' p _ e66 e4 hpl ?_ _ 0 (Nat.zero_add _)
                refine hv_aload_n dX12_cut_250 rfl ?_
                refine hv_iload_n dX12_cut_251 rfl ?_
                refine hv_iconst (v := 4) dX12_cut_252 (by decide) ?_
                refine hv_icmp_le (tgt := 260) dX12_cut_253 (by decide) (fun c_253 => ?_) (fun c_253 => ?_)
                · have h4 : rn isDg f n 2000 p ≤ 4 := (nI_leI (b := 4) (by omega) (by decide)).mp c_253
                  rw [if_neg (by omega)] at a1
                  rw [if_neg (by omega)] at a2
                  refine hv_iconst (v := 2) dX12_cut_260 (by decide) ?_
                  refine hv_iload_n dX12_cut_261 rfl ?_
                  refine hv_iload dX12_cut_262 rfl ?_
                  refine hv_lconst (v := 0) dX12_cut_264 (by decide) ?_
                  refine hv_cv4 (d_token h10 (by omega)) dX12_cut_265 ml_X12_188 mk_X12_token (by first | rfl | assumption) rfl rfl rfl rfl rfl ?_
                  rintro _ _ σ1 τ1 ⟨rfl, rfl, q1, q2, ht⟩
                  refine hv_iload_n dX12_cut_268 rfl ?_
                  refine hv_iload_n dX12_cut_269 rfl ?_
                  refine hv_iadd dX12_cut_270 ?_
                  rw [nI_add]
                  refine hv_istore_n dX12_cut_271 rfl rfl ?_
                  refine hv_goto (tgt := 291) dX12_cut_272 (by decide) ?_
                  refine hv_goto (tgt := 7) dX12_cut_291 (by decide) ?_
                  first
                    | exact hv_drop 2 (hv_drop 3 (hv_drop 4 (next σ1 τ1 _ _ _ _ hm4 q1 q2 ht a3.symm (by rw [a1]; rfl) (fun q => absurd (a1.symm.trans q) (show ¬ (26 : Nat) = 24 by decide)) (fun q => absurd q (by rw [a1]; decide)))))
                    | exact hv_drop 2 (hv_drop 3 (hv_drop 4 (next σ1 τ1 _ _ _ _ hm4 q1 q2 ht a3.symm (by rw [a1]; rfl) (fun _ => by rw [a2, show min (rn isDg f n 2000 p) 4 = rn isDg f n 2000 p by omega]) (fun q => absurd q (by rw [a1]; decide)))))
                · have h4 : 4 < rn isDg f n 2000 p := (nI_ltI (a := 4) (by decide) (by omega)).mp (Int32.not_le.mp c_253)
                  rw [if_pos h4] at a1
                  refine hv_iconst (v := 3) dX12_cut_256 (by decide) ?_
                  refine hv_goto (tgt := 261) dX12_cut_257 (by decide) ?_
                  refine hv_iload_n dX12_cut_261 rfl ?_
                  refine hv_iload dX12_cut_262 rfl ?_
                  refine hv_lconst (v := 0) dX12_cut_264 (by decide) ?_
                  refine hv_cv4 (d_token h10 (by omega)) dX12_cut_265 ml_X12_188 mk_X12_token (by first | rfl | assumption) rfl rfl rfl rfl rfl ?_
                  rintro _ _ σ1 τ1 ⟨rfl, rfl, q1, q2, ht⟩
                  refine hv_iload_n dX12_cut_268 rfl ?_
                  refine hv_iload_n dX12_cut_269 rfl ?_
                  refine hv_iadd dX12_cut_270 ?_
                  rw [nI_add]
                  refine hv_istore_n dX12_cut_271 rfl rfl ?_
                  refine hv_goto (tgt := 291) dX12_cut_272 (by decide) ?_
                  refine hv_goto (tgt := 7) dX12_cut_291 (by decide) ?_
                  first
                    | exact hv_drop 2 (hv_drop 3 (hv_drop 4 (next σ1 τ1 _ _ _ _ hm4 q1 q2 ht a3.symm (by rw [a1]; rfl) (fun q => absurd (a1.symm.trans q) (show ¬ (26 : Nat) = 24 by decide)) (fun q => absurd q (by rw [a1]; decide)))))
                    | exact hv_drop 2 (hv_drop 3 (hv_drop 4 (next σ1 τ1 _ _ _ _ hm4 q1 q2 ht a3.symm (by rw [a1]; rfl) (fun _ => by rw [a2, show min (rn isDg f n 2000 p) 4 = rn isDg f n 2000 p by omega]) (fun q => absurd q (by rw [a1]; decide)))))
            · obtain ⟨a1, a2⟩ := tkd_let (n := n) (bI_1 c_77)
              have a3 : tln f n p = rn isLt f n 2000 p := by rw [tln, if_pos hpl, if_pos (bI_1 c_77)]
              have hlall : ∀ i, i < rn isLt f n 2000 p → isLt (bN f (p + i)) = true := fun i hi => (rn_all isLt f 2000 p i hi).2
              refine hv_iconst (v := 0) dX12_cut_80 (by decide) ?_
              refine hv_istore_n dX12_cut_81 rfl rfl ?_
              refine hv_lconst (v := 0) dX12_cut_82 (by decide) ?_
              refine hv_lstore dX12_cut_83 rfl rfl ?_
              refine letl σ' τ' p _ e66 e4 hpl ?_ _ 0 (Nat.zero_add _)
              refine hv_iload_n dX12_cut_124 rfl ?_
              refine hv_bipush (v := 8) dX12_cut_125 (by decide) ?_
              refine hv_icmp_le (tgt := 134) dX12_cut_127 (by decide) (fun c_127 => ?_) (fun c_127 => ?_)
              · have h8 : rn isLt f n 2000 p ≤ 8 := (nI_leI (b := 8) (by omega) (by decide)).mp c_127
                rw [if_neg (by omega)] at a1
                refine hv_iconst (v := 1) dX12_cut_134 (by decide) ?_
                refine hv_istore dX12_cut_135 rfl rfl ?_
                refine hv_iload_n dX12_cut_137 rfl ?_
                refine hv_bipush (v := 8) dX12_cut_138 (by decide) ?_
                refine hv_icmp_gt (tgt := 179) dX12_cut_140 (by decide) (fun c_140 => ?_) (fun c_140 => ?_)
                · first | skip | exact absurd c_140 c_127
                  refine hv_aload_n dX12_cut_179 rfl ?_
                  refine hv_iload dX12_cut_180 rfl ?_
                  refine hv_iload_n dX12_cut_182 rfl ?_
                  refine hv_iconst (v := 0) dX12_cut_183 (by decide) ?_
                  refine hv_lload dX12_cut_184 rfl ?_
                  refine hv_cv4 (d_token h10 (by omega)) dX12_cut_186 ml_X12_188 mk_X12_token (by first | rfl | assumption) rfl rfl rfl rfl rfl ?_
                  rintro _ _ σ1 τ1 ⟨rfl, rfl, q1, q2, ht⟩
                  refine hv_iload_n dX12_cut_189 rfl ?_
                  refine hv_iload_n dX12_cut_190 rfl ?_
                  refine hv_iadd dX12_cut_191 ?_
                  rw [nI_add]
                  refine hv_istore_n dX12_cut_192 rfl rfl ?_
                  refine hv_goto (tgt := 291) dX12_cut_193 (by decide) ?_
                  refine hv_goto (tgt := 7) dX12_cut_291 (by decide) ?_
                  first
                    | exact absurd c_140 (nI_nlt (a := 8) h8 (by decide))
                    | exact hv_drop 2 (hv_drop 3 (hv_drop 4 (hv_drop 6 (next σ1 τ1 _ _ _ _ hm4 q1 q2 ht a3.symm (by rw [a1]; rfl) (fun q => absurd q (by rw [a1]; decide)) (fun q => absurd q (by rw [a1]; decide))))))
                · refine hv_iconst (v := 0) dX12_cut_143 (by decide) ?_
                  refine hv_istore dX12_cut_144 rfl rfl ?_
                  first
                    | exact absurd (nI_lt (a := 8) h8 (by omega)) c_140
                    | (rw [show min (rn isLt f n 2000 p) 8 = rn isLt f n 2000 p by omega]
                       refine keyl σ' τ' p _ _ _ (Nat.lt_of_lt_of_le (dgs_lt f p _ hlall) (Nat.le_trans (Nat.pow_le_pow_right (by decide) h8) (by decide))) (fun k hk => by rw [hτ 71 (by decide)]; exact hkey k hk) ?_ 23 0 rfl
                       refine hv_aload_n dX12_cut_179 rfl ?_
                       refine hv_iload dX12_cut_180 rfl ?_
                       refine hv_iload_n dX12_cut_182 rfl ?_
                       refine hv_iconst (v := 0) dX12_cut_183 (by decide) ?_
                       refine hv_lload dX12_cut_184 rfl ?_
                       refine hv_cv4 (d_token h10 (by omega)) dX12_cut_186 ml_X12_188 mk_X12_token (by first | rfl | assumption) rfl rfl rfl rfl rfl ?_
                       rintro _ _ σ1 τ1 ⟨rfl, rfl, q1, q2, ht⟩
                       refine hv_iload_n dX12_cut_189 rfl ?_
                       refine hv_iload_n dX12_cut_190 rfl ?_
                       refine hv_iadd dX12_cut_191 ?_
                       rw [nI_add]
                       refine hv_istore_n dX12_cut_192 rfl rfl ?_
                       refine hv_goto (tgt := 291) dX12_cut_193 (by decide) ?_
                       refine hv_goto (tgt := 7) dX12_cut_291 (by decide) ?_
                       exact hv_drop 2 (hv_drop 3 (hv_drop 4 (hv_drop 6 (hv_drop 7 (next σ1 τ1 _ _ _ _ hm4 q1 q2 ht a3.symm (by rw [a1]) (fun q => absurd q (by rw [a1]; have := wkF_le (d := dgs f p (rn isLt f n 2000 p)) 23 (Nat.le_refl _); omega)) (fun _ => by rw [a2]))))))
                       skip)
              · have h8 : 8 < rn isLt f n 2000 p := (nI_ltI (a := 8) (by decide) (by omega)).mp (Int32.not_le.mp c_127)
                rw [if_pos h8] at a1
                refine hv_iconst (v := 3) dX12_cut_130 (by decide) ?_
                refine hv_goto (tgt := 135) dX12_cut_131 (by decide) ?_
                refine hv_istore dX12_cut_135 rfl rfl ?_
                refine hv_iload_n dX12_cut_137 rfl ?_
                refine hv_bipush (v := 8) dX12_cut_138 (by decide) ?_
                refine hv_icmp_gt (tgt := 179) dX12_cut_140 (by decide) (fun c_140 => ?_) (fun c_140 => ?_)
                · first | skip | exact absurd c_140 c_127
                  refine hv_aload_n dX12_cut_179 rfl ?_
                  refine hv_iload dX12_cut_180 rfl ?_
                  refine hv_iload_n dX12_cut_182 rfl ?_
                  refine hv_iconst (v := 0) dX12_cut_183 (by decide) ?_
                  refine hv_lload dX12_cut_184 rfl ?_
                  refine hv_cv4 (d_token h10 (by omega)) dX12_cut_186 ml_X12_188 mk_X12_token (by first | rfl | assumption) rfl rfl rfl rfl rfl ?_
                  rintro _ _ σ1 τ1 ⟨rfl, rfl, q1, q2, ht⟩
                  refine hv_iload_n dX12_cut_189 rfl ?_
                  refine hv_iload_n dX12_cut_190 rfl ?_
                  refine hv_iadd dX12_cut_191 ?_
                  rw [nI_add]
                  refine hv_istore_n dX12_cut_192 rfl rfl ?_
                  refine hv_goto (tgt := 291) dX12_cut_193 (by decide) ?_
                  refine hv_goto (tgt := 7) dX12_cut_291 (by decide) ?_
                  first
                    | exact absurd c_140 (nI_nlt (a := 8) h8 (by decide))
                    | exact hv_drop 2 (hv_drop 3 (hv_drop 4 (hv_drop 6 (next σ1 τ1 _ _ _ _ hm4 q1 q2 ht a3.symm (by rw [a1]; rfl) (fun q => absurd q (by rw [a1]; decide)) (fun q => absurd q (by rw [a1]; decide))))))
                · refine hv_iconst (v := 0) dX12_cut_143 (by decide) ?_
                  refine hv_istore dX12_cut_144 rfl rfl ?_
                  first
                    | exact absurd (nI_lt (a := 8) h8 (by omega)) c_140
                    | (rw [show min (rn isLt f n 2000 p) 8 = rn isLt f n 2000 p by omega]
                       refine keyl σ' τ' p _ _ _ (Nat.lt_of_lt_of_le (dgs_lt f p _ hlall) (Nat.le_trans (Nat.pow_le_pow_right (by decide) h8) (by decide))) (fun k hk => by rw [hτ 71 (by decide)]; exact hkey k hk) ?_ 23 0 rfl
                       refine hv_aload_n dX12_cut_179 rfl ?_
                       refine hv_iload dX12_cut_180 rfl ?_
                       refine hv_iload_n dX12_cut_182 rfl ?_
                       refine hv_iconst (v := 0) dX12_cut_183 (by decide) ?_
                       refine hv_lload dX12_cut_184 rfl ?_
                       refine hv_cv4 (d_token h10 (by omega)) dX12_cut_186 ml_X12_188 mk_X12_token (by first | rfl | assumption) rfl rfl rfl rfl rfl ?_
                       rintro _ _ σ1 τ1 ⟨rfl, rfl, q1, q2, ht⟩
                       refine hv_iload_n dX12_cut_189 rfl ?_
                       refine hv_iload_n dX12_cut_190 rfl ?_
                       refine hv_iadd dX12_cut_191 ?_
                       rw [nI_add]
                       refine hv_istore_n dX12_cut_192 rfl rfl ?_
                       refine hv_goto (tgt := 291) dX12_cut_193 (by decide) ?_
                       refine hv_goto (tgt := 7) dX12_cut_291 (by decide) ?_
                       exact hv_drop 2 (hv_drop 3 (hv_drop 4 (hv_drop 6 (hv_drop 7 (next σ1 τ1 _ _ _ _ hm4 q1 q2 ht a3.symm (by rw [a1]) (fun q => absurd q (by rw [a1]; have := wkF_le (d := dgs f p (rn isLt f n 2000 p)) 23 (Nat.le_refl _); omega)) (fun _ => by rw [a2]))))))
                       skip)
  refine hv_aload_n dX12_cut_0 rfl ?_
  refine hv_iconst (v := 0) dX12_cut_1 (by decide) ?_
  refine hv_puti dX12_cut_2 fl_X12_181 (by first | rfl | assumption) rfl rfl rfl ?_
  refine hv_iconst (v := 0) dX12_cut_5 (by decide) ?_
  refine hv_istore_n dX12_cut_6 rfl rfl ?_
  exact main n 0 0 _ τ (by omega) (by omega) (by omega) rfl (off_up (fun _ _ => rfl) (by decide)) (fun _ _ => rfl) (fun j hj => by rw [hup_eq, pk_un hj]) (by rw [hup_eq, pk_us]; rfl) (fun i hi => absurd hi (by omega))
end S71

