abbrev m_X2_passOne (Q : hPo) : hMe := (hrm 3, 0, 0, yX2_passOne, cX2_passOne, 9, (none : Option FieldType), shp, none, Q)
abbrev m_X2_passMany (Q : hPo) : hMe := (hrm 4, 0, 0, yX2_passMany, cX2_passMany, 6, (none : Option FieldType), shp, none, Q)
def hdj (X Y : List Nat) : Bool := Y.all (fun c => !X.contains c)
theorem hdj_at {X Y : List Nat} {σ σ' : hS} (hσ : ∀ k, k ∉ X → σ' k = σ k) (h : hdj X Y = true) : ∀ c, c ∈ Y → σ' c = σ c := by
  intro c hc
  have := List.all_eq_true.mp h c hc
  exact hσ c (by simpa using this)
theorem twC_of {X : List Nat} {σ σ' : hS} {h sz : Nat} (hσ : ∀ k, k ∉ X → σ' k = σ k) (hX : hdj X [38, 41, 42, 43, 45, 46, 47, 48] = true) : twC σ' h sz = twC σ h sz := by
  have q := hdj_at hσ hX
  unfold twC
  rw [q 38 (by decide), q 41 (by decide), q 42 (by decide), q 43 (by decide), q 46 (by decide), q 47 (by decide), q 48 (by decide)]
theorem okC_of {X : List Nat} {σ σ' : hS} {h sz : Nat} (ok : okC σ h sz) (hσ : ∀ k, k ∉ X → σ' k = σ k) (hX : hdj X [38, 41, 42, 43, 45, 46, 47, 48] = true) : okC σ' h sz := by
  have q := hdj_at hσ hX
  exact ⟨by rw [q 38 (by decide)]; exact ok.1, ok.2.1, by rw [q 45 (by decide)]; exact ok.2.2.1, ok.2.2.2⟩
theorem dyC_of {X : List Nat} {σ σ' : hS} {S : Nat} (hσ : ∀ k, k ∉ X → σ' k = σ k) (hX : hdj X [S, S + 1, S + 2, S + 3, S + 4, S + 5] = true) : dyC σ' S = dyC σ S := by
  have q := hdj_at hσ hX
  unfold dyC
  rw [q S (by simp), q (S + 1) (by simp), q (S + 2) (by simp), q (S + 3) (by simp), q (S + 4) (by simp), q (S + 5) (by simp)]
theorem off_tr {X Y Z : List Nat} {σ σ1 σ2 : hS} (h1 : ∀ k, k ∉ X → σ1 k = σ k) (h2 : ∀ k, k ∉ Y → σ2 k = σ1 k) (hX : X.all (fun c => Z.contains c) = true) (hY : Y.all (fun c => Z.contains c) = true) : ∀ k, k ∉ Z → σ2 k = σ k := by
  intro k hk
  have a1 : k ∉ X := fun q => hk (by have := List.all_eq_true.mp hX k q; simpa using this)
  have a2 : k ∉ Y := fun q => hk (by have := List.all_eq_true.mp hY k q; simpa using this)
  rw [h2 k a2, h1 k a1]
theorem off_up {X : List Nat} {σ σ1 : hS} {c : Nat} {f : hF} (h1 : ∀ k, k ∉ X → σ1 k = σ k) (hX : X.contains c = true) : ∀ k, k ∉ X → va_up σ1 c f k = σ k := by
  intro k hk
  have : k ≠ c := fun e => hk (by rw [e]; simpa using hX)
  rw [hva_ne this]
  exact h1 k hk
theorem upd_lt {f g : hF} {i : Nat} {v : Int32} (h : ∀ a, a < i → f a = g a) (hv : v = g i) : ∀ a, a < i + 1 → upd f i v a = g a := by
  intro a ha
  by_cases e : a = i
  · subst e; rw [pk_us]; exact hv
  · rw [pk_un e]; exact h a (by omega)
section S14
variable {G : hGl} {σ : hS} {τ : hT} {x y : Option Nat}
theorem l4_passOne_11 {Q : hPo} {h : Nat} {sd gl all al1 : Int32} (h38 : σ 38 7 = nI h) (k2 : h ≤ 7)
    (kk : ∀ (σ' : hS), (∀ c, c ∉ [12] → σ' c = σ c) → (∀ a, a < h → σ' 12 a = hmin 9999 (σ 12 a - σ 30 a + σ 29 a)) → hV G (m_X2_passOne Q) 0 0 shp 209 [some (.ref (hgA G 21)), some (.ref (hgA G 38)), some (.ref (hgA G 11)), some (.int sd), some (.int gl), some (.int all), some (.int al1), some (.int (nI h)), none] [] (rr 38 51 x y) σ' τ) :
    ∀ k i (σ' : hS), i + k = h → (∀ c, c ∉ [12] → σ' c = σ c) → (∀ a, a < i → σ' 12 a = hmin 9999 (σ 12 a - σ 30 a + σ 29 a)) → (∀ a, i ≤ a → σ' 12 a = σ 12 a) → hV G (m_X2_passOne Q) 0 0 shp 154 [some (.ref (hgA G 21)), some (.ref (hgA G 38)), some (.ref (hgA G 11)), some (.int sd), some (.int gl), some (.int all), some (.int al1), some (.int (nI i)), none] [] (rr 38 51 x y) σ' τ := by
  intro k
  induction k with
  | zero =>
    intro i σ' hi hσ h1 h2
    obtain rfl : i = h := by omega
    refine hv_iload dX2_passOne_154 rfl ?_
    refine hv_aload_n dX2_passOne_156 rfl ?_
    refine hv_geti dX2_passOne_157 fl_X2_115 (by first | rfl | assumption) rfl ?_
    refine hv_icmp_ge (tgt := 209) dX2_passOne_160 (by decide) (fun c_160 => ?_) (fun c_160 => absurd ((by rw [hσ 38 (by decide), h38]; exact nI_le (Nat.le_refl _) (by omega))) c_160)
    exact kk σ' hσ h1
  | succ k ih =>
    intro i σ' hi hσ h1 h2
    refine hv_iload dX2_passOne_154 rfl ?_
    refine hv_aload_n dX2_passOne_156 rfl ?_
    refine hv_geti dX2_passOne_157 fl_X2_115 (by first | rfl | assumption) rfl ?_
    refine hv_icmp_ge (tgt := 209) dX2_passOne_160 (by decide) (fun c_160 => absurd c_160 ((by rw [hσ 38 (by decide), h38]; exact nI_ge (by omega) (by omega)))) (fun c_160 => ?_)
    refine hv_aload_n dX2_passOne_163 rfl ?_
    refine hv_getr dX2_passOne_164 fl_X2_68 (by first | rfl | assumption) rfl (by first | rfl | assumption) ?_
    refine hv_iload dX2_passOne_167 rfl ?_
    refine hv_iald dX2_passOne_169 (by first | rfl | assumption) rfl (by first | assumption | omega) (by first | decide | assumption) ?_
    refine hv_aload_n dX2_passOne_170 rfl ?_
    refine hv_getr dX2_passOne_171 fl_X2_25 (by first | rfl | assumption) rfl (by first | rfl | assumption) ?_
    refine hv_iload dX2_passOne_174 rfl ?_
    refine hv_iald dX2_passOne_176 (by first | rfl | assumption) rfl (by first | assumption | omega) (by first | decide | assumption) ?_
    refine hv_isub dX2_passOne_177 ?_
    refine hv_istore dX2_passOne_178 rfl rfl ?_
    refine hv_aload_n dX2_passOne_180 rfl ?_
    refine hv_getr dX2_passOne_181 fl_X2_68 (by first | rfl | assumption) rfl (by first | rfl | assumption) ?_
    refine hv_iload dX2_passOne_184 rfl ?_
    refine hv_sipush (v := 9999) dX2_passOne_186 (by decide) ?_
    refine hv_iload dX2_passOne_189 rfl ?_
    refine hv_aload_n dX2_passOne_191 rfl ?_
    refine hv_getr dX2_passOne_192 fl_X2_22 (by first | rfl | assumption) rfl (by first | rfl | assumption) ?_
    refine hv_iload dX2_passOne_195 rfl ?_
    refine hv_iald dX2_passOne_197 (by first | rfl | assumption) rfl (by first | assumption | omega) (by first | decide | assumption) ?_
    refine hv_iadd dX2_passOne_198 ?_
    refine hv_min dX2_passOne_199 ml_X2_28 rfl rfl rfl rfl ?_
    refine hv_iast dX2_passOne_202 (by first | rfl | assumption) rfl (by first | assumption | omega) (by first | decide | assumption) ?_
    refine hv_iinc dX2_passOne_203 rfl (nI_1 i) rfl rfl ?_
    refine hv_goto (tgt := 154) dX2_passOne_206 (by decide) ?_
    refine hv_drop 8 ?_
    refine ih (i + 1) _ (by omega) (off_up hσ (by decide)) ?_ ?_
    · intro a ha
      rw [hup_eq]
      refine upd_lt h1 ?_ a ha
      rw [h2 i (Nat.le_refl _), hσ 30 (by decide), hσ 29 (by decide)]; rfl
    · intro a ha
      rw [hup_eq, pk_un (by omega)]; exact h2 a (by omega)
theorem l3_passOne_11 {Q : hPo} {h sz : Nat} {sd gl all al1 : Int32} (ok : okC σ h sz)
    (kk : ∀ (σ' : hS), (∀ c, c ∉ [30, 49, 50] → σ' c = σ c) → (∀ a, a < h → σ' 30 a = fRots (twC σ h sz) (dyC σ 11) al1 a) → hV G (m_X2_passOne Q) 0 0 shp 151 [some (.ref (hgA G 21)), some (.ref (hgA G 38)), some (.ref (hgA G 11)), some (.int sd), some (.int gl), some (.int all), some (.int al1), some (.int (nI h)), none] [] (rr 38 51 x y) σ' τ) :
    ∀ k i (σ' : hS), i + k = h → (∀ c, c ∉ [30, 49, 50] → σ' c = σ c) → (∀ a, a < i → σ' 30 a = fRots (twC σ h sz) (dyC σ 11) al1 a) → hV G (m_X2_passOne Q) 0 0 shp 119 [some (.ref (hgA G 21)), some (.ref (hgA G 38)), some (.ref (hgA G 11)), some (.int sd), some (.int gl), some (.int all), some (.int al1), some (.int (nI i)), none] [] (rr 38 51 x y) σ' τ := by
  have k2 := ok.2.1
  intro k
  induction k with
  | zero =>
    intro i σ' hi hσ h1
    obtain rfl : i = h := by omega
    refine hv_iload dX2_passOne_119 rfl ?_
    refine hv_aload_n dX2_passOne_121 rfl ?_
    refine hv_geti dX2_passOne_122 fl_X2_115 (by first | rfl | assumption) rfl ?_
    refine hv_icmp_ge (tgt := 151) dX2_passOne_125 (by decide) (fun c_125 => ?_) (fun c_125 => absurd ((by rw [hσ 38 (by decide), ok.1]; exact nI_le (Nat.le_refl _) (by omega))) c_125)
    exact kk σ' hσ h1
  | succ k ih =>
    intro i σ' hi hσ h1
    refine hv_iload dX2_passOne_119 rfl ?_
    refine hv_aload_n dX2_passOne_121 rfl ?_
    refine hv_geti dX2_passOne_122 fl_X2_115 (by first | rfl | assumption) rfl ?_
    refine hv_icmp_ge (tgt := 151) dX2_passOne_125 (by decide) (fun c_125 => absurd c_125 ((by rw [hσ 38 (by decide), ok.1]; exact nI_ge (by omega) (by omega)))) (fun c_125 => ?_)
    refine hv_aload_n dX2_passOne_128 rfl ?_
    refine hv_getr dX2_passOne_129 fl_X2_25 (by first | rfl | assumption) rfl (by first | rfl | assumption) ?_
    refine hv_iload dX2_passOne_132 rfl ?_
    refine hv_aload_n dX2_passOne_134 rfl ?_
    refine hv_aload_n dX2_passOne_135 rfl ?_
    refine hv_aload_n dX2_passOne_136 rfl ?_
    refine hv_iload dX2_passOne_137 rfl ?_
    refine hv_iload dX2_passOne_139 rfl ?_
    refine hv_cv4 (c_rotten_11 (okC_of ok hσ rfl) (by omega)) dX2_passOne_141 ml_X2_129 mk_X2_rotten (by first | rfl | assumption) rfl rfl rfl rfl rfl ?_
    rintro _ _ σ1 _ ⟨rfl, rfl, rfl, q1⟩
    refine hv_iast dX2_passOne_144 (by first | rfl | assumption) rfl (by first | assumption | omega) (by first | decide | assumption) ?_
    refine hv_iinc dX2_passOne_145 rfl (nI_1 i) rfl rfl ?_
    refine hv_goto (tgt := 119) dX2_passOne_148 (by decide) ?_
    have q2 : ∀ c, c ∉ [30, 49, 50] → σ1 c = σ c := off_tr hσ q1 (by decide) (by decide)
    refine ih (i + 1) _ (by omega) (off_up q2 (by decide)) ?_
    intro a ha
    rw [hup_eq]
    refine upd_lt (fun a ha => by rw [q1 30 (by decide)]; exact h1 a ha) ?_ a ha
    rw [twC_of hσ rfl, dyC_of hσ rfl]
theorem l2_passOne_11 {Q : hPo} {h : Nat} {sd gl all : Int32} (h38 : σ 38 7 = nI h) (k2 : h ≤ 7)
    (kk : ∀ (σ' : hS), (∀ c, c ∉ [12, 14, 15] → σ' c = σ c) → (∀ a, a < h → σ' 12 a = σ 12 a - σ 28 a ∧ σ' 14 a = hmin (σ 14 a) (σ 12 a - σ 28 a) ∧ σ' 15 a = σ 15 a + σ 28 a) → hV G (m_X2_passOne Q) 0 0 shp 110 [some (.ref (hgA G 21)), some (.ref (hgA G 38)), some (.ref (hgA G 11)), some (.int sd), some (.int gl), some (.int all), some (.int (nI h)), none, none] [] (rr 38 51 x y) σ' τ) :
    ∀ k i (σ' : hS), i + k = h → (∀ c, c ∉ [12, 14, 15] → σ' c = σ c) → (∀ a, a < i → σ' 12 a = σ 12 a - σ 28 a ∧ σ' 14 a = hmin (σ 14 a) (σ 12 a - σ 28 a) ∧ σ' 15 a = σ 15 a + σ 28 a) → (∀ a, i ≤ a → σ' 12 a = σ 12 a ∧ σ' 14 a = σ 14 a ∧ σ' 15 a = σ 15 a) → hV G (m_X2_passOne Q) 0 0 shp 82 [some (.ref (hgA G 21)), some (.ref (hgA G 38)), some (.ref (hgA G 11)), some (.int sd), some (.int gl), some (.int all), some (.int (nI i)), none, none] [] (rr 38 51 x y) σ' τ := by
  intro k
  induction k with
  | zero =>
    intro i σ' hi hσ h1 h2
    obtain rfl : i = h := by omega
    refine hv_iload dX2_passOne_82 rfl ?_
    refine hv_aload_n dX2_passOne_84 rfl ?_
    refine hv_geti dX2_passOne_85 fl_X2_115 (by first | rfl | assumption) rfl ?_
    refine hv_icmp_ge (tgt := 110) dX2_passOne_88 (by decide) (fun c_88 => ?_) (fun c_88 => absurd ((by rw [hσ 38 (by decide), h38]; exact nI_le (Nat.le_refl _) (by omega))) c_88)
    exact kk σ' hσ h1
  | succ k ih =>
    intro i σ' hi hσ h1 h2
    refine hv_iload dX2_passOne_82 rfl ?_
    refine hv_aload_n dX2_passOne_84 rfl ?_
    refine hv_geti dX2_passOne_85 fl_X2_115 (by first | rfl | assumption) rfl ?_
    refine hv_icmp_ge (tgt := 110) dX2_passOne_88 (by decide) (fun c_88 => absurd c_88 ((by rw [hσ 38 (by decide), h38]; exact nI_ge (by omega) (by omega)))) (fun c_88 => ?_)
    refine hv_aload_n dX2_passOne_91 rfl ?_
    refine hv_iload dX2_passOne_92 rfl ?_
    refine hv_aload_n dX2_passOne_94 rfl ?_
    refine hv_getr dX2_passOne_95 fl_X2_18 (by first | rfl | assumption) rfl (by first | rfl | assumption) ?_
    refine hv_iload dX2_passOne_98 rfl ?_
    refine hv_iald dX2_passOne_100 (by first | rfl | assumption) rfl (by first | assumption | omega) (by first | decide | assumption) ?_
    refine hv_cv2 (c_consume_11 (by omega)) dX2_passOne_101 ml_X2_125 mk_X6_consume (by first | rfl | assumption) rfl rfl rfl rfl rfl ?_
    rintro _ _ _ _ ⟨rfl, rfl, rfl, rfl⟩
    refine hv_iinc dX2_passOne_104 rfl (nI_1 i) rfl rfl ?_
    refine hv_goto (tgt := 82) dX2_passOne_107 (by decide) ?_
    refine ih (i + 1) _ (by omega) (off_up (off_up (off_up hσ (by decide)) (by decide)) (by decide)) ?_ ?_
    · intro a ha
      obtain ⟨p1, p2, p3⟩ := h2 i (Nat.le_refl _)
      have p0 := hσ 28 (by decide)
      simp only [sConsume_11, va_up]
      by_cases e : a = i
      · subst e; simp [p0, p1, p2, p3, pk_us]
      · simpa [pk_un e] using h1 a (by omega)
    · intro a ha
      have e : a ≠ i := by omega
      simpa [sConsume_11, va_up, upd, e] using h2 a (by omega)
theorem l1_passOne_11 {Q : hPo} {h sz : Nat} {sd gl all : Int32} (ok : okC σ h sz)
    (kk : ∀ (σ' : hS), (∀ c, c ∉ [28, 29, 49, 50] → σ' c = σ c) → (∀ a, a < h → σ' 28 a = fEats (twC σ h sz) (dyC σ 11) all a) → (∀ a, a < h → σ' 29 a = if gl = 0 then 0 else fGlut (twC σ h sz) (dyC σ 11) all a) → hV G (m_X2_passOne Q) 0 0 shp 79 [some (.ref (hgA G 21)), some (.ref (hgA G 38)), some (.ref (hgA G 11)), some (.int sd), some (.int gl), some (.int all), some (.int (nI h)), none, none] [] (rr 38 51 x y) σ' τ) :
    ∀ k i (σ' : hS), i + k = h → (∀ c, c ∉ [28, 29, 49, 50] → σ' c = σ c) → (∀ a, a < i → σ' 28 a = fEats (twC σ h sz) (dyC σ 11) all a) → (∀ a, a < i → σ' 29 a = if gl = 0 then 0 else fGlut (twC σ h sz) (dyC σ 11) all a) → hV G (m_X2_passOne Q) 0 0 shp 21 [some (.ref (hgA G 21)), some (.ref (hgA G 38)), some (.ref (hgA G 11)), some (.int sd), some (.int gl), some (.int all), some (.int (nI i)), none, none] [] (rr 38 51 x y) σ' τ := by
  have k2 := ok.2.1
  intro k
  induction k with
  | zero =>
    intro i σ' hi hσ h1 h2
    obtain rfl : i = h := by omega
    refine hv_iload dX2_passOne_21 rfl ?_
    refine hv_aload_n dX2_passOne_23 rfl ?_
    refine hv_geti dX2_passOne_24 fl_X2_115 (by first | rfl | assumption) rfl ?_
    refine hv_icmp_ge (tgt := 79) dX2_passOne_27 (by decide) (fun c_27 => ?_) (fun c_27 => absurd ((by rw [hσ 38 (by decide), ok.1]; exact nI_le (Nat.le_refl _) (by omega))) c_27)
    exact kk σ' hσ h1 h2
  | succ k ih =>
    intro i σ' hi hσ h1 h2
    refine hv_iload dX2_passOne_21 rfl ?_
    refine hv_aload_n dX2_passOne_23 rfl ?_
    refine hv_geti dX2_passOne_24 fl_X2_115 (by first | rfl | assumption) rfl ?_
    refine hv_icmp_ge (tgt := 79) dX2_passOne_27 (by decide) (fun c_27 => absurd c_27 ((by rw [hσ 38 (by decide), ok.1]; exact nI_ge (by omega) (by omega)))) (fun c_27 => ?_)
    refine hv_aload_n dX2_passOne_30 rfl ?_
    refine hv_getr dX2_passOne_31 fl_X2_18 (by first | rfl | assumption) rfl (by first | rfl | assumption) ?_
    refine hv_iload dX2_passOne_34 rfl ?_
    refine hv_aload_n dX2_passOne_36 rfl ?_
    refine hv_aload_n dX2_passOne_37 rfl ?_
    refine hv_aload_n dX2_passOne_38 rfl ?_
    refine hv_iload dX2_passOne_39 rfl ?_
    refine hv_iload dX2_passOne_41 rfl ?_
    refine hv_cv4 (c_eaten_11 (okC_of ok hσ rfl) (by omega)) dX2_passOne_43 ml_X2_118 mk_X2_eaten (by first | rfl | assumption) rfl rfl rfl rfl rfl ?_
    rintro _ _ σ1 _ ⟨rfl, rfl, rfl, q1⟩
    rw [twC_of hσ rfl, dyC_of hσ rfl]
    have q2 : ∀ c, c ∉ [28, 29, 49, 50] → σ1 c = σ c := off_tr hσ q1 (by decide) (by decide)
    have q3 := off_up (c := 28) (f := upd (σ1 28) i (fEats (twC σ h sz) (dyC σ 11) all i)) q2 (by decide)
    refine hv_iast dX2_passOne_46 (by first | rfl | assumption) rfl (by first | assumption | omega) (by first | decide | assumption) ?_
    refine hv_aload_n dX2_passOne_47 rfl ?_
    refine hv_getr dX2_passOne_48 fl_X2_22 (by first | rfl | assumption) rfl (by first | rfl | assumption) ?_
    refine hv_iload dX2_passOne_51 rfl ?_
    refine hv_iload dX2_passOne_53 rfl ?_
    refine hv_if_eq (tgt := 71) dX2_passOne_55 (by decide) (fun c_55 => ?_) (fun c_55 => ?_)
    · refine hv_iconst (v := 0) dX2_passOne_71 (by decide) ?_
      refine hv_iast dX2_passOne_72 (by first | rfl | assumption) rfl (by first | assumption | omega) (by first | decide | assumption) ?_
      refine hv_iinc dX2_passOne_73 rfl (nI_1 i) rfl rfl ?_
      refine hv_goto (tgt := 21) dX2_passOne_76 (by decide) ?_
      first
        | refine ih (i + 1) _ (by omega) (off_up q3 (by decide)) (fun a ha => ?_) (fun a ha => ?_)
          · rw [hva_ne (by decide), hup_eq]
            exact upd_lt (fun a ha => by rw [q1 28 (by decide)]; exact h1 a ha) rfl a ha
          · rw [hup_eq, hva_ne (by decide)]
            exact upd_lt (g := fun a => if gl = 0 then 0 else fGlut (twC σ h sz) (dyC σ 11) all a) (fun a ha => by rw [q1 29 (by decide)]; exact h2 a ha) (by rw [if_pos c_55]) a ha
        | refine ih (i + 1) _ (by omega) (off_up (off_tr q3 q4 (by decide) (by decide)) (by decide)) (fun a ha => ?_) (fun a ha => ?_)
          · rw [hva_ne (by decide), q4 28 (by decide), hup_eq]
            exact upd_lt (fun a ha => by rw [q1 28 (by decide)]; exact h1 a ha) rfl a ha
          · rw [hup_eq, q4 29 (by decide), hva_ne (by decide)]
            exact upd_lt (g := fun a => if gl = 0 then 0 else fGlut (twC σ h sz) (dyC σ 11) all a) (fun a ha => by rw [q1 29 (by decide)]; exact h2 a ha) (by rw [if_neg c_55]) a ha
    · refine hv_aload_n dX2_passOne_58 rfl ?_
      refine hv_aload_n dX2_passOne_59 rfl ?_
      refine hv_aload_n dX2_passOne_60 rfl ?_
      refine hv_iload dX2_passOne_61 rfl ?_
      refine hv_iload dX2_passOne_63 rfl ?_
      refine hv_cv4 (c_caught_11 (okC_of ok q3 rfl) (by omega)) dX2_passOne_65 ml_X2_122 mk_X2_caught (by first | rfl | assumption) rfl rfl rfl rfl rfl ?_
      rintro _ _ σ3 _ ⟨rfl, rfl, rfl, q4⟩
      rw [twC_of q3 rfl, dyC_of q3 rfl]
      refine hv_goto (tgt := 72) dX2_passOne_68 (by decide) ?_
      refine hv_iast dX2_passOne_72 (by first | rfl | assumption) rfl (by first | assumption | omega) (by first | decide | assumption) ?_
      refine hv_iinc dX2_passOne_73 rfl (nI_1 i) rfl rfl ?_
      refine hv_goto (tgt := 21) dX2_passOne_76 (by decide) ?_
      first
        | refine ih (i + 1) _ (by omega) (off_up q3 (by decide)) (fun a ha => ?_) (fun a ha => ?_)
          · rw [hva_ne (by decide), hup_eq]
            exact upd_lt (fun a ha => by rw [q1 28 (by decide)]; exact h1 a ha) rfl a ha
          · rw [hup_eq, hva_ne (by decide)]
            exact upd_lt (g := fun a => if gl = 0 then 0 else fGlut (twC σ h sz) (dyC σ 11) all a) (fun a ha => by rw [q1 29 (by decide)]; exact h2 a ha) (by rw [if_pos c_55]) a ha
        | refine ih (i + 1) _ (by omega) (off_up (off_tr q3 q4 (by decide) (by decide)) (by decide)) (fun a ha => ?_) (fun a ha => ?_)
          · rw [hva_ne (by decide), q4 28 (by decide), hup_eq]
            exact upd_lt (fun a ha => by rw [q1 28 (by decide)]; exact h1 a ha) rfl a ha
          · rw [hup_eq, q4 29 (by decide), hva_ne (by decide)]
            exact upd_lt (g := fun a => if gl = 0 then 0 else fGlut (twC σ h sz) (dyC σ 11) all a) (fun a ha => by rw [q1 29 (by decide)]; exact h2 a ha) (by rw [if_neg c_55]) a ha
/-- what a DAY leaves -/
def pDay_11 (σ : hS) (h sz : Nat) (g : Bool) (σ' : hS) : Prop := dEq h (dyC σ' 11) (fDay (twC σ h sz) g (dyC σ 11)) ∧ σ' 11 5 = σ 11 5
theorem c_passOne_11 {h sz : Nat} {sd : Int32} {g : Bool} (ok : okC σ h sz) (hS : σ 11 5 = nI h) (hg : g = true ↔ fIsGlut (twC σ h sz) (σ 11 6) sd) : hCal G (m_X2_passOne (hQp [28, 29, 30, 49, 50, 11, 12, 14, 15] none (rr 38 51 x y) σ τ (pDay_11 σ h sz g))) [.ref (hgA G 21), .ref (hgA G 38), .ref (hgA G 11), .int sd] shp (rr 38 51 x y) σ τ := by
  have k2 := ok.2.1
  refine hv_enter pn_X2 rfl ?_
  refine hv_aload_n dX2_passOne_0 rfl ?_
  refine hv_aload_n dX2_passOne_1 rfl ?_
  refine hv_aload_n dX2_passOne_2 rfl ?_
  refine hv_geti dX2_passOne_3 fl_X2_81 (by first | rfl | assumption) rfl ?_
  refine hv_iload_n dX2_passOne_6 rfl ?_
  refine hv_cv3 (c_isGlut (h := h) (sz := sz)) dX2_passOne_7 ml_X2_111 mk_X2_isGlut (by first | rfl | assumption) rfl rfl rfl rfl rfl ?_
  rintro v _ _ _ ⟨hv, rfl, rfl, rfl⟩
  obtain ⟨gl, rfl, hgl⟩ : ∃ gl : Int32, v = some (.int gl) ∧ (gl = 0 ↔ g = false) := by
    rcases hv with ⟨rfl, q⟩ | ⟨rfl, q⟩
    · exact ⟨1, rfl, by rw [hg.mpr q]; decide⟩
    · refine ⟨0, rfl, ?_⟩
      cases g with
      | false => simp
      | true => exact absurd (hg.mp rfl) q
  refine hv_istore dX2_passOne_10 rfl rfl ?_
  refine hv_aload_n dX2_passOne_12 rfl ?_
  refine hv_cv0 (c_allFish_11 hS k2) dX2_passOne_13 ml_X2_37 mk_X6_allFish (by first | rfl | assumption) rfl rfl rfl rfl rfl ?_
  rintro _ _ _ _ ⟨rfl, rfl, rfl, rfl⟩
  refine hv_istore dX2_passOne_16 rfl rfl ?_
  refine hv_iconst (v := 0) dX2_passOne_18 (by decide) ?_
  refine hv_istore dX2_passOne_19 rfl rfl ?_
  refine l1_passOne_11 ok ?_ h 0 σ (by omega) (fun _ _ => rfl) (fun a ha => absurd ha (by omega)) (fun a ha => absurd ha (by omega))
  intro σ1 u1 u2 u3
  refine hv_iconst (v := 0) dX2_passOne_79 (by decide) ?_
  refine hv_istore dX2_passOne_80 rfl rfl ?_
  skip
  refine l2_passOne_11 (by rw [u1 38 (by decide)]; exact ok.1) k2 ?_ h 0 σ1 (by omega) (fun _ _ => rfl) (fun a ha => absurd ha (by omega)) (fun a ha => ⟨rfl, rfl, rfl⟩)
  intro σ2 w1 w2
  have w3 : ∀ c, c ∉ [28, 29, 49, 50, 12, 14, 15] → σ2 c = σ c := off_tr u1 w1 (by decide) (by decide)
  have ok2 : okC σ2 h sz := okC_of ok w3 rfl
  have hS2 : σ2 11 5 = nI h := by rw [w3 11 (by decide)]; exact hS
  refine hv_aload_n dX2_passOne_110 rfl ?_
  refine hv_cv0 (c_allFish_11 hS2 k2) dX2_passOne_111 ml_X2_37 mk_X6_allFish (by first | rfl | assumption) rfl rfl rfl rfl rfl ?_
  rintro _ _ _ _ ⟨rfl, rfl, rfl, rfl⟩
  refine hv_istore dX2_passOne_114 rfl rfl ?_
  refine hv_iconst (v := 0) dX2_passOne_116 (by decide) ?_
  refine hv_istore dX2_passOne_117 rfl rfl ?_
  skip
  refine l3_passOne_11 ok2 ?_ h 0 σ2 (by omega) (fun _ _ => rfl) (fun a ha => absurd ha (by omega))
  intro σ3 v1 v2
  refine hv_iconst (v := 0) dX2_passOne_151 (by decide) ?_
  refine hv_istore dX2_passOne_152 rfl rfl ?_
  skip
  refine l4_passOne_11 (by rw [v1 38 (by decide)]; exact ok2.1) k2 ?_ h 0 σ3 (by omega) (fun _ _ => rfl) (fun a ha => absurd ha (by omega)) (fun a ha => rfl)
  intro σ4 z1 z2
  refine hv_aload_n dX2_passOne_209 rfl ?_
  refine hv_dup dX2_passOne_210 rfl ?_
  refine hv_geti dX2_passOne_211 fl_X2_81 (by first | rfl | assumption) rfl ?_
  refine hv_iconst (v := 1) dX2_passOne_214 (by decide) ?_
  refine hv_iadd dX2_passOne_215 ?_
  refine hv_puti dX2_passOne_216 fl_X2_81 (by first | rfl | assumption) rfl rfl rfl ?_
  refine hv_vret dX2_passOne_219 rfl ?_
  skip
  have z3 : ∀ c, c ∉ [28, 29, 30, 49, 50, 12, 14, 15] → σ4 c = σ c := off_tr (off_tr w3 v1 (Z := [28, 29, 30, 49, 50, 12, 14, 15]) (by decide) (by decide)) z1 (by decide) (by decide)
  obtain ⟨σ5, hσ5⟩ : ∃ σ5, va_up σ4 11 (upd (σ4 11) 6 (σ4 11 6 + 1)) = σ5 := ⟨_, rfl⟩
  have f1 : ∀ c, c ≠ 11 → σ5 c = σ4 c := fun c hc => by rw [← hσ5, hva_ne hc]
  have f6 : σ5 11 6 = σ 11 6 + 1 := by rw [← hσ5, hup_eq, pk_us, z3 11 (by decide)]
  have f7 : σ5 11 7 = σ 11 7 := by rw [← hσ5, hup_eq, pk_un (by decide), z3 11 (by decide)]
  have f5 : σ5 11 5 = σ 11 5 := by rw [← hσ5, hup_eq, pk_un (by decide), z3 11 (by decide)]
  have f0 : ∀ c, c ∉ [28, 29, 30, 49, 50, 11, 12, 14, 15] → σ5 c = σ c := fun c hc => by
    rw [f1 c (fun e => hc (by rw [e]; decide))]
    exact z3 c (fun q => hc (by simp at q ⊢; omega))
  rw [hσ5]
  refine ⟨rfl, rfl, rfl, f0, ?_, f5⟩
  have hd : dEq h (dyC σ2 11) (fAte (fEats (twC σ h sz) (dyC σ 11) (hsum (σ 12) h)) (dyC σ 11)) := by
    refine ⟨fun a ha => ?_, ?_, ?_⟩
    · obtain ⟨p1, p2, p3⟩ := w2 a ha
      rw [u1 12 (by decide), u2 a ha] at p1
      rw [u1 14 (by decide), u1 12 (by decide), u2 a ha] at p2
      rw [u1 15 (by decide), u2 a ha] at p3
      exact ⟨p1, congrFun (w3 13 (by decide)) a, p2, p3, congrFun (w3 16 (by decide)) a⟩
    · exact congrFun (w3 11 (by decide)) 6
    · exact congrFun (w3 11 (by decide)) 7
  have ht : tEq (twC σ2 h sz) (twC σ h sz) := by
    rw [twC_of w3 rfl]
    exact ⟨rfl, fun _ _ => ⟨rfl, rfl, rfl⟩, rfl, fun _ _ _ => rfl, fun k v w hv => lvalC_ext _ _ _ hv _ _ _⟩
  have hs := dEq.sum ht (show dEq (tH (twC σ2 h sz)) _ _ from hd)
  refine ⟨fun a ha => ?_, f6, f7⟩
  obtain ⟨p1, p2, p3, p4, p5⟩ := hd.1 a ha
  have g5 : ∀ c, c ∉ [11, 12, 30, 49, 50] → σ5 c = σ2 c := fun c hc => by
    simp only [List.mem_cons, List.not_mem_nil, or_false, not_or] at hc
    rw [f1 c hc.1, z1 c (by simp [hc.2.1]), v1 c (by simp [hc.2.2])]
  refine ⟨?_, (congrFun (g5 13 (by decide)) a).trans p2, (congrFun (g5 14 (by decide)) a).trans p3, (congrFun (g5 15 (by decide)) a).trans p4, (congrFun (g5 16 (by decide)) a).trans p5⟩
  have e1 : σ5 12 a = hmin 9999 (σ2 12 a - fRots (twC σ2 h sz) (dyC σ2 11) (hsum (σ2 12) h) a + (if gl = 0 then 0 else fGlut (twC σ h sz) (dyC σ 11) (hsum (σ 12) h) a)) := by
    rw [f1 12 (by decide), z2 a ha, v2 a ha, v1 12 (by decide), v1 29 (by decide), w1 29 (by decide), u3 a ha]
  refine Eq.trans (show dF (dyC σ5 11) a = _ from e1) ?_
  show hmin 9999 (dF (dyC σ2 11) a - fRots (twC σ2 h sz) (dyC σ2 11) (hsum (dF (dyC σ2 11)) (tH (twC σ2 h sz))) a + _) = _
  rw [fRots_congr ht hd ha, hs, p1]
  show _ = hmin 9999 (_ - _ + (if g = true then fGlut (twC σ h sz) (dyC σ 11) (hsum (σ 12) h) a else 0))
  cases g with
    | true => rw [if_neg (fun q => absurd (hgl.mp q) (by decide)), if_pos rfl]; rfl
    | false => rw [if_pos (hgl.mpr rfl), if_neg (by decide)]; rfl
theorem l4_passOne_22 {Q : hPo} {h : Nat} {sd gl all al1 : Int32} (h38 : σ 38 7 = nI h) (k2 : h ≤ 7)
    (kk : ∀ (σ' : hS), (∀ c, c ∉ [23] → σ' c = σ c) → (∀ a, a < h → σ' 23 a = hmin 9999 (σ 23 a - σ 30 a + σ 29 a)) → hV G (m_X2_passOne Q) 0 0 shp 209 [some (.ref (hgA G 21)), some (.ref (hgA G 38)), some (.ref (hgA G 22)), some (.int sd), some (.int gl), some (.int all), some (.int al1), some (.int (nI h)), none] [] (rr 38 51 x y) σ' τ) :
    ∀ k i (σ' : hS), i + k = h → (∀ c, c ∉ [23] → σ' c = σ c) → (∀ a, a < i → σ' 23 a = hmin 9999 (σ 23 a - σ 30 a + σ 29 a)) → (∀ a, i ≤ a → σ' 23 a = σ 23 a) → hV G (m_X2_passOne Q) 0 0 shp 154 [some (.ref (hgA G 21)), some (.ref (hgA G 38)), some (.ref (hgA G 22)), some (.int sd), some (.int gl), some (.int all), some (.int al1), some (.int (nI i)), none] [] (rr 38 51 x y) σ' τ := by
  intro k
  induction k with
  | zero =>
    intro i σ' hi hσ h1 h2
    obtain rfl : i = h := by omega
    refine hv_iload dX2_passOne_154 rfl ?_
    refine hv_aload_n dX2_passOne_156 rfl ?_
    refine hv_geti dX2_passOne_157 fl_X2_115 (by first | rfl | assumption) rfl ?_
    refine hv_icmp_ge (tgt := 209) dX2_passOne_160 (by decide) (fun c_160 => ?_) (fun c_160 => absurd ((by rw [hσ 38 (by decide), h38]; exact nI_le (Nat.le_refl _) (by omega))) c_160)
    exact kk σ' hσ h1
  | succ k ih =>
    intro i σ' hi hσ h1 h2
    refine hv_iload dX2_passOne_154 rfl ?_
    refine hv_aload_n dX2_passOne_156 rfl ?_
    refine hv_geti dX2_passOne_157 fl_X2_115 (by first | rfl | assumption) rfl ?_
    refine hv_icmp_ge (tgt := 209) dX2_passOne_160 (by decide) (fun c_160 => absurd c_160 ((by rw [hσ 38 (by decide), h38]; exact nI_ge (by omega) (by omega)))) (fun c_160 => ?_)
    refine hv_aload_n dX2_passOne_163 rfl ?_
    refine hv_getr dX2_passOne_164 fl_X2_68 (by first | rfl | assumption) rfl (by first | rfl | assumption) ?_
    refine hv_iload dX2_passOne_167 rfl ?_
    refine hv_iald dX2_passOne_169 (by first | rfl | assumption) rfl (by first | assumption | omega) (by first | decide | assumption) ?_
    refine hv_aload_n dX2_passOne_170 rfl ?_
    refine hv_getr dX2_passOne_171 fl_X2_25 (by first | rfl | assumption) rfl (by first | rfl | assumption) ?_
    refine hv_iload dX2_passOne_174 rfl ?_
    refine hv_iald dX2_passOne_176 (by first | rfl | assumption) rfl (by first | assumption | omega) (by first | decide | assumption) ?_
    refine hv_isub dX2_passOne_177 ?_
    refine hv_istore dX2_passOne_178 rfl rfl ?_
    refine hv_aload_n dX2_passOne_180 rfl ?_
    refine hv_getr dX2_passOne_181 fl_X2_68 (by first | rfl | assumption) rfl (by first | rfl | assumption) ?_
    refine hv_iload dX2_passOne_184 rfl ?_
    refine hv_sipush (v := 9999) dX2_passOne_186 (by decide) ?_
    refine hv_iload dX2_passOne_189 rfl ?_
    refine hv_aload_n dX2_passOne_191 rfl ?_
    refine hv_getr dX2_passOne_192 fl_X2_22 (by first | rfl | assumption) rfl (by first | rfl | assumption) ?_
    refine hv_iload dX2_passOne_195 rfl ?_
    refine hv_iald dX2_passOne_197 (by first | rfl | assumption) rfl (by first | assumption | omega) (by first | decide | assumption) ?_
    refine hv_iadd dX2_passOne_198 ?_
    refine hv_min dX2_passOne_199 ml_X2_28 rfl rfl rfl rfl ?_
    refine hv_iast dX2_passOne_202 (by first | rfl | assumption) rfl (by first | assumption | omega) (by first | decide | assumption) ?_
    refine hv_iinc dX2_passOne_203 rfl (nI_1 i) rfl rfl ?_
    refine hv_goto (tgt := 154) dX2_passOne_206 (by decide) ?_
    refine hv_drop 8 ?_
    refine ih (i + 1) _ (by omega) (off_up hσ (by decide)) ?_ ?_
    · intro a ha
      rw [hup_eq]
      refine upd_lt h1 ?_ a ha
      rw [h2 i (Nat.le_refl _), hσ 30 (by decide), hσ 29 (by decide)]; rfl
    · intro a ha
      rw [hup_eq, pk_un (by omega)]; exact h2 a (by omega)
theorem l3_passOne_22 {Q : hPo} {h sz : Nat} {sd gl all al1 : Int32} (ok : okC σ h sz)
    (kk : ∀ (σ' : hS), (∀ c, c ∉ [30, 49, 50] → σ' c = σ c) → (∀ a, a < h → σ' 30 a = fRots (twC σ h sz) (dyC σ 22) al1 a) → hV G (m_X2_passOne Q) 0 0 shp 151 [some (.ref (hgA G 21)), some (.ref (hgA G 38)), some (.ref (hgA G 22)), some (.int sd), some (.int gl), some (.int all), some (.int al1), some (.int (nI h)), none] [] (rr 38 51 x y) σ' τ) :
    ∀ k i (σ' : hS), i + k = h → (∀ c, c ∉ [30, 49, 50] → σ' c = σ c) → (∀ a, a < i → σ' 30 a = fRots (twC σ h sz) (dyC σ 22) al1 a) → hV G (m_X2_passOne Q) 0 0 shp 119 [some (.ref (hgA G 21)), some (.ref (hgA G 38)), some (.ref (hgA G 22)), some (.int sd), some (.int gl), some (.int all), some (.int al1), some (.int (nI i)), none] [] (rr 38 51 x y) σ' τ := by
  have k2 := ok.2.1
  intro k
  induction k with
  | zero =>
    intro i σ' hi hσ h1
    obtain rfl : i = h := by omega
    refine hv_iload dX2_passOne_119 rfl ?_
    refine hv_aload_n dX2_passOne_121 rfl ?_
    refine hv_geti dX2_passOne_122 fl_X2_115 (by first | rfl | assumption) rfl ?_
    refine hv_icmp_ge (tgt := 151) dX2_passOne_125 (by decide) (fun c_125 => ?_) (fun c_125 => absurd ((by rw [hσ 38 (by decide), ok.1]; exact nI_le (Nat.le_refl _) (by omega))) c_125)
    exact kk σ' hσ h1
  | succ k ih =>
    intro i σ' hi hσ h1
    refine hv_iload dX2_passOne_119 rfl ?_
    refine hv_aload_n dX2_passOne_121 rfl ?_
    refine hv_geti dX2_passOne_122 fl_X2_115 (by first | rfl | assumption) rfl ?_
    refine hv_icmp_ge (tgt := 151) dX2_passOne_125 (by decide) (fun c_125 => absurd c_125 ((by rw [hσ 38 (by decide), ok.1]; exact nI_ge (by omega) (by omega)))) (fun c_125 => ?_)
    refine hv_aload_n dX2_passOne_128 rfl ?_
    refine hv_getr dX2_passOne_129 fl_X2_25 (by first | rfl | assumption) rfl (by first | rfl | assumption) ?_
    refine hv_iload dX2_passOne_132 rfl ?_
    refine hv_aload_n dX2_passOne_134 rfl ?_
    refine hv_aload_n dX2_passOne_135 rfl ?_
    refine hv_aload_n dX2_passOne_136 rfl ?_
    refine hv_iload dX2_passOne_137 rfl ?_
    refine hv_iload dX2_passOne_139 rfl ?_
    refine hv_cv4 (c_rotten_22 (okC_of ok hσ rfl) (by omega)) dX2_passOne_141 ml_X2_129 mk_X2_rotten (by first | rfl | assumption) rfl rfl rfl rfl rfl ?_
    rintro _ _ σ1 _ ⟨rfl, rfl, rfl, q1⟩
    refine hv_iast dX2_passOne_144 (by first | rfl | assumption) rfl (by first | assumption | omega) (by first | decide | assumption) ?_
    refine hv_iinc dX2_passOne_145 rfl (nI_1 i) rfl rfl ?_
    refine hv_goto (tgt := 119) dX2_passOne_148 (by decide) ?_
    have q2 : ∀ c, c ∉ [30, 49, 50] → σ1 c = σ c := off_tr hσ q1 (by decide) (by decide)
    refine ih (i + 1) _ (by omega) (off_up q2 (by decide)) ?_
    intro a ha
    rw [hup_eq]
    refine upd_lt (fun a ha => by rw [q1 30 (by decide)]; exact h1 a ha) ?_ a ha
    rw [twC_of hσ rfl, dyC_of hσ rfl]
theorem l2_passOne_22 {Q : hPo} {h : Nat} {sd gl all : Int32} (h38 : σ 38 7 = nI h) (k2 : h ≤ 7)
    (kk : ∀ (σ' : hS), (∀ c, c ∉ [23, 25, 26] → σ' c = σ c) → (∀ a, a < h → σ' 23 a = σ 23 a - σ 28 a ∧ σ' 25 a = hmin (σ 25 a) (σ 23 a - σ 28 a) ∧ σ' 26 a = σ 26 a + σ 28 a) → hV G (m_X2_passOne Q) 0 0 shp 110 [some (.ref (hgA G 21)), some (.ref (hgA G 38)), some (.ref (hgA G 22)), some (.int sd), some (.int gl), some (.int all), some (.int (nI h)), none, none] [] (rr 38 51 x y) σ' τ) :
    ∀ k i (σ' : hS), i + k = h → (∀ c, c ∉ [23, 25, 26] → σ' c = σ c) → (∀ a, a < i → σ' 23 a = σ 23 a - σ 28 a ∧ σ' 25 a = hmin (σ 25 a) (σ 23 a - σ 28 a) ∧ σ' 26 a = σ 26 a + σ 28 a) → (∀ a, i ≤ a → σ' 23 a = σ 23 a ∧ σ' 25 a = σ 25 a ∧ σ' 26 a = σ 26 a) → hV G (m_X2_passOne Q) 0 0 shp 82 [some (.ref (hgA G 21)), some (.ref (hgA G 38)), some (.ref (hgA G 22)), some (.int sd), some (.int gl), some (.int all), some (.int (nI i)), none, none] [] (rr 38 51 x y) σ' τ := by
  intro k
  induction k with
  | zero =>
    intro i σ' hi hσ h1 h2
    obtain rfl : i = h := by omega
    refine hv_iload dX2_passOne_82 rfl ?_
    refine hv_aload_n dX2_passOne_84 rfl ?_
    refine hv_geti dX2_passOne_85 fl_X2_115 (by first | rfl | assumption) rfl ?_
    refine hv_icmp_ge (tgt := 110) dX2_passOne_88 (by decide) (fun c_88 => ?_) (fun c_88 => absurd ((by rw [hσ 38 (by decide), h38]; exact nI_le (Nat.le_refl _) (by omega))) c_88)
    exact kk σ' hσ h1
  | succ k ih =>
    intro i σ' hi hσ h1 h2
    refine hv_iload dX2_passOne_82 rfl ?_
    refine hv_aload_n dX2_passOne_84 rfl ?_
    refine hv_geti dX2_passOne_85 fl_X2_115 (by first | rfl | assumption) rfl ?_
    refine hv_icmp_ge (tgt := 110) dX2_passOne_88 (by decide) (fun c_88 => absurd c_88 ((by rw [hσ 38 (by decide), h38]; exact nI_ge (by omega) (by omega)))) (fun c_88 => ?_)
    refine hv_aload_n dX2_passOne_91 rfl ?_
    refine hv_iload dX2_passOne_92 rfl ?_
    refine hv_aload_n dX2_passOne_94 rfl ?_
    refine hv_getr dX2_passOne_95 fl_X2_18 (by first | rfl | assumption) rfl (by first | rfl | assumption) ?_
    refine hv_iload dX2_passOne_98 rfl ?_
    refine hv_iald dX2_passOne_100 (by first | rfl | assumption) rfl (by first | assumption | omega) (by first | decide | assumption) ?_
    refine hv_cv2 (c_consume_22 (by omega)) dX2_passOne_101 ml_X2_125 mk_X6_consume (by first | rfl | assumption) rfl rfl rfl rfl rfl ?_
    rintro _ _ _ _ ⟨rfl, rfl, rfl, rfl⟩
    refine hv_iinc dX2_passOne_104 rfl (nI_1 i) rfl rfl ?_
    refine hv_goto (tgt := 82) dX2_passOne_107 (by decide) ?_
    refine ih (i + 1) _ (by omega) (off_up (off_up (off_up hσ (by decide)) (by decide)) (by decide)) ?_ ?_
    · intro a ha
      obtain ⟨p1, p2, p3⟩ := h2 i (Nat.le_refl _)
      have p0 := hσ 28 (by decide)
      simp only [sConsume_22, va_up]
      by_cases e : a = i
      · subst e; simp [p0, p1, p2, p3, pk_us]
      · simpa [pk_un e] using h1 a (by omega)
    · intro a ha
      have e : a ≠ i := by omega
      simpa [sConsume_22, va_up, upd, e] using h2 a (by omega)
theorem l1_passOne_22 {Q : hPo} {h sz : Nat} {sd gl all : Int32} (ok : okC σ h sz)
    (kk : ∀ (σ' : hS), (∀ c, c ∉ [28, 29, 49, 50] → σ' c = σ c) → (∀ a, a < h → σ' 28 a = fEats (twC σ h sz) (dyC σ 22) all a) → (∀ a, a < h → σ' 29 a = if gl = 0 then 0 else fGlut (twC σ h sz) (dyC σ 22) all a) → hV G (m_X2_passOne Q) 0 0 shp 79 [some (.ref (hgA G 21)), some (.ref (hgA G 38)), some (.ref (hgA G 22)), some (.int sd), some (.int gl), some (.int all), some (.int (nI h)), none, none] [] (rr 38 51 x y) σ' τ) :
    ∀ k i (σ' : hS), i + k = h → (∀ c, c ∉ [28, 29, 49, 50] → σ' c = σ c) → (∀ a, a < i → σ' 28 a = fEats (twC σ h sz) (dyC σ 22) all a) → (∀ a, a < i → σ' 29 a = if gl = 0 then 0 else fGlut (twC σ h sz) (dyC σ 22) all a) → hV G (m_X2_passOne Q) 0 0 shp 21 [some (.ref (hgA G 21)), some (.ref (hgA G 38)), some (.ref (hgA G 22)), some (.int sd), some (.int gl), some (.int all), some (.int (nI i)), none, none] [] (rr 38 51 x y) σ' τ := by
  have k2 := ok.2.1
  intro k
  induction k with
  | zero =>
    intro i σ' hi hσ h1 h2
    obtain rfl : i = h := by omega
    refine hv_iload dX2_passOne_21 rfl ?_
    refine hv_aload_n dX2_passOne_23 rfl ?_
    refine hv_geti dX2_passOne_24 fl_X2_115 (by first | rfl | assumption) rfl ?_
    refine hv_icmp_ge (tgt := 79) dX2_passOne_27 (by decide) (fun c_27 => ?_) (fun c_27 => absurd ((by rw [hσ 38 (by decide), ok.1]; exact nI_le (Nat.le_refl _) (by omega))) c_27)
    exact kk σ' hσ h1 h2
  | succ k ih =>
    intro i σ' hi hσ h1 h2
    refine hv_iload dX2_passOne_21 rfl ?_
    refine hv_aload_n dX2_passOne_23 rfl ?_
    refine hv_geti dX2_passOne_24 fl_X2_115 (by first | rfl | assumption) rfl ?_
    refine hv_icmp_ge (tgt := 79) dX2_passOne_27 (by decide) (fun c_27 => absurd c_27 ((by rw [hσ 38 (by decide), ok.1]; exact nI_ge (by omega) (by omega)))) (fun c_27 => ?_)
    refine hv_aload_n dX2_passOne_30 rfl ?_
    refine hv_getr dX2_passOne_31 fl_X2_18 (by first | rfl | assumption) rfl (by first | rfl | assumption) ?_
    refine hv_iload dX2_passOne_34 rfl ?_
    refine hv_aload_n dX2_passOne_36 rfl ?_
    refine hv_aload_n dX2_passOne_37 rfl ?_
    refine hv_aload_n dX2_passOne_38 rfl ?_
    refine hv_iload dX2_passOne_39 rfl ?_
    refine hv_iload dX2_passOne_41 rfl ?_
    refine hv_cv4 (c_eaten_22 (okC_of ok hσ rfl) (by omega)) dX2_passOne_43 ml_X2_118 mk_X2_eaten (by first | rfl | assumption) rfl rfl rfl rfl rfl ?_
    rintro _ _ σ1 _ ⟨rfl, rfl, rfl, q1⟩
    rw [twC_of hσ rfl, dyC_of hσ rfl]
    have q2 : ∀ c, c ∉ [28, 29, 49, 50] → σ1 c = σ c := off_tr hσ q1 (by decide) (by decide)
    have q3 := off_up (c := 28) (f := upd (σ1 28) i (fEats (twC σ h sz) (dyC σ 22) all i)) q2 (by decide)
    refine hv_iast dX2_passOne_46 (by first | rfl | assumption) rfl (by first | assumption | omega) (by first | decide | assumption) ?_
    refine hv_aload_n dX2_passOne_47 rfl ?_
    refine hv_getr dX2_passOne_48 fl_X2_22 (by first | rfl | assumption) rfl (by first | rfl | assumption) ?_
    refine hv_iload dX2_passOne_51 rfl ?_
    refine hv_iload dX2_passOne_53 rfl ?_
    refine hv_if_eq (tgt := 71) dX2_passOne_55 (by decide) (fun c_55 => ?_) (fun c_55 => ?_)
    · refine hv_iconst (v := 0) dX2_passOne_71 (by decide) ?_
      refine hv_iast dX2_passOne_72 (by first | rfl | assumption) rfl (by first | assumption | omega) (by first | decide | assumption) ?_
      refine hv_iinc dX2_passOne_73 rfl (nI_1 i) rfl rfl ?_
      refine hv_goto (tgt := 21) dX2_passOne_76 (by decide) ?_
      first
        | refine ih (i + 1) _ (by omega) (off_up q3 (by decide)) (fun a ha => ?_) (fun a ha => ?_)
          · rw [hva_ne (by decide), hup_eq]
            exact upd_lt (fun a ha => by rw [q1 28 (by decide)]; exact h1 a ha) rfl a ha
          · rw [hup_eq, hva_ne (by decide)]
            exact upd_lt (g := fun a => if gl = 0 then 0 else fGlut (twC σ h sz) (dyC σ 22) all a) (fun a ha => by rw [q1 29 (by decide)]; exact h2 a ha) (by rw [if_pos c_55]) a ha
        | refine ih (i + 1) _ (by omega) (off_up (off_tr q3 q4 (by decide) (by decide)) (by decide)) (fun a ha => ?_) (fun a ha => ?_)
          · rw [hva_ne (by decide), q4 28 (by decide), hup_eq]
            exact upd_lt (fun a ha => by rw [q1 28 (by decide)]; exact h1 a ha) rfl a ha
          · rw [hup_eq, q4 29 (by decide), hva_ne (by decide)]
            exact upd_lt (g := fun a => if gl = 0 then 0 else fGlut (twC σ h sz) (dyC σ 22) all a) (fun a ha => by rw [q1 29 (by decide)]; exact h2 a ha) (by rw [if_neg c_55]) a ha
    · refine hv_aload_n dX2_passOne_58 rfl ?_
      refine hv_aload_n dX2_passOne_59 rfl ?_
      refine hv_aload_n dX2_passOne_60 rfl ?_
      refine hv_iload dX2_passOne_61 rfl ?_
      refine hv_iload dX2_passOne_63 rfl ?_
      refine hv_cv4 (c_caught_22 (okC_of ok q3 rfl) (by omega)) dX2_passOne_65 ml_X2_122 mk_X2_caught (by first | rfl | assumption) rfl rfl rfl rfl rfl ?_
      rintro _ _ σ3 _ ⟨rfl, rfl, rfl, q4⟩
      rw [twC_of q3 rfl, dyC_of q3 rfl]
      refine hv_goto (tgt := 72) dX2_passOne_68 (by decide) ?_
      refine hv_iast dX2_passOne_72 (by first | rfl | assumption) rfl (by first | assumption | omega) (by first | decide | assumption) ?_
      refine hv_iinc dX2_passOne_73 rfl (nI_1 i) rfl rfl ?_
      refine hv_goto (tgt := 21) dX2_passOne_76 (by decide) ?_
      first
        | refine ih (i + 1) _ (by omega) (off_up q3 (by decide)) (fun a ha => ?_) (fun a ha => ?_)
          · rw [hva_ne (by decide), hup_eq]
            exact upd_lt (fun a ha => by rw [q1 28 (by decide)]; exact h1 a ha) rfl a ha
          · rw [hup_eq, hva_ne (by decide)]
            exact upd_lt (g := fun a => if gl = 0 then 0 else fGlut (twC σ h sz) (dyC σ 22) all a) (fun a ha => by rw [q1 29 (by decide)]; exact h2 a ha) (by rw [if_pos c_55]) a ha
        | refine ih (i + 1) _ (by omega) (off_up (off_tr q3 q4 (by decide) (by decide)) (by decide)) (fun a ha => ?_) (fun a ha => ?_)
          · rw [hva_ne (by decide), q4 28 (by decide), hup_eq]
            exact upd_lt (fun a ha => by rw [q1 28 (by decide)]; exact h1 a ha) rfl a ha
          · rw [hup_eq, q4 29 (by decide), hva_ne (by decide)]
            exact upd_lt (g := fun a => if gl = 0 then 0 else fGlut (twC σ h sz) (dyC σ 22) all a) (fun a ha => by rw [q1 29 (by decide)]; exact h2 a ha) (by rw [if_neg c_55]) a ha
/-- what a DAY leaves -/
def pDay_22 (σ : hS) (h sz : Nat) (g : Bool) (σ' : hS) : Prop := dEq h (dyC σ' 22) (fDay (twC σ h sz) g (dyC σ 22)) ∧ σ' 22 5 = σ 22 5
theorem c_passOne_22 {h sz : Nat} {sd : Int32} {g : Bool} (ok : okC σ h sz) (hS : σ 22 5 = nI h) (hg : g = true ↔ fIsGlut (twC σ h sz) (σ 22 6) sd) : hCal G (m_X2_passOne (hQp [28, 29, 30, 49, 50, 22, 23, 25, 26] none (rr 38 51 x y) σ τ (pDay_22 σ h sz g))) [.ref (hgA G 21), .ref (hgA G 38), .ref (hgA G 22), .int sd] shp (rr 38 51 x y) σ τ := by
  have k2 := ok.2.1
  refine hv_enter pn_X2 rfl ?_
  refine hv_aload_n dX2_passOne_0 rfl ?_
  refine hv_aload_n dX2_passOne_1 rfl ?_
  refine hv_aload_n dX2_passOne_2 rfl ?_
  refine hv_geti dX2_passOne_3 fl_X2_81 (by first | rfl | assumption) rfl ?_
  refine hv_iload_n dX2_passOne_6 rfl ?_
  refine hv_cv3 (c_isGlut (h := h) (sz := sz)) dX2_passOne_7 ml_X2_111 mk_X2_isGlut (by first | rfl | assumption) rfl rfl rfl rfl rfl ?_
  rintro v _ _ _ ⟨hv, rfl, rfl, rfl⟩
  obtain ⟨gl, rfl, hgl⟩ : ∃ gl : Int32, v = some (.int gl) ∧ (gl = 0 ↔ g = false) := by
    rcases hv with ⟨rfl, q⟩ | ⟨rfl, q⟩
    · exact ⟨1, rfl, by rw [hg.mpr q]; decide⟩
    · refine ⟨0, rfl, ?_⟩
      cases g with
      | false => simp
      | true => exact absurd (hg.mp rfl) q
  refine hv_istore dX2_passOne_10 rfl rfl ?_
  refine hv_aload_n dX2_passOne_12 rfl ?_
  refine hv_cv0 (c_allFish_22 hS k2) dX2_passOne_13 ml_X2_37 mk_X6_allFish (by first | rfl | assumption) rfl rfl rfl rfl rfl ?_
  rintro _ _ _ _ ⟨rfl, rfl, rfl, rfl⟩
  refine hv_istore dX2_passOne_16 rfl rfl ?_
  refine hv_iconst (v := 0) dX2_passOne_18 (by decide) ?_
  refine hv_istore dX2_passOne_19 rfl rfl ?_
  refine l1_passOne_22 ok ?_ h 0 σ (by omega) (fun _ _ => rfl) (fun a ha => absurd ha (by omega)) (fun a ha => absurd ha (by omega))
  intro σ1 u1 u2 u3
  refine hv_iconst (v := 0) dX2_passOne_79 (by decide) ?_
  refine hv_istore dX2_passOne_80 rfl rfl ?_
  skip
  refine l2_passOne_22 (by rw [u1 38 (by decide)]; exact ok.1) k2 ?_ h 0 σ1 (by omega) (fun _ _ => rfl) (fun a ha => absurd ha (by omega)) (fun a ha => ⟨rfl, rfl, rfl⟩)
  intro σ2 w1 w2
  have w3 : ∀ c, c ∉ [28, 29, 49, 50, 23, 25, 26] → σ2 c = σ c := off_tr u1 w1 (by decide) (by decide)
  have ok2 : okC σ2 h sz := okC_of ok w3 rfl
  have hS2 : σ2 22 5 = nI h := by rw [w3 22 (by decide)]; exact hS
  refine hv_aload_n dX2_passOne_110 rfl ?_
  refine hv_cv0 (c_allFish_22 hS2 k2) dX2_passOne_111 ml_X2_37 mk_X6_allFish (by first | rfl | assumption) rfl rfl rfl rfl rfl ?_
  rintro _ _ _ _ ⟨rfl, rfl, rfl, rfl⟩
  refine hv_istore dX2_passOne_114 rfl rfl ?_
  refine hv_iconst (v := 0) dX2_passOne_116 (by decide) ?_
  refine hv_istore dX2_passOne_117 rfl rfl ?_
  skip
  refine l3_passOne_22 ok2 ?_ h 0 σ2 (by omega) (fun _ _ => rfl) (fun a ha => absurd ha (by omega))
  intro σ3 v1 v2
  refine hv_iconst (v := 0) dX2_passOne_151 (by decide) ?_
  refine hv_istore dX2_passOne_152 rfl rfl ?_
  skip
  refine l4_passOne_22 (by rw [v1 38 (by decide)]; exact ok2.1) k2 ?_ h 0 σ3 (by omega) (fun _ _ => rfl) (fun a ha => absurd ha (by omega)) (fun a ha => rfl)
  intro σ4 z1 z2
  refine hv_aload_n dX2_passOne_209 rfl ?_
  refine hv_dup dX2_passOne_210 rfl ?_
  refine hv_geti dX2_passOne_211 fl_X2_81 (by first | rfl | assumption) rfl ?_
  refine hv_iconst (v := 1) dX2_passOne_214 (by decide) ?_
  refine hv_iadd dX2_passOne_215 ?_
  refine hv_puti dX2_passOne_216 fl_X2_81 (by first | rfl | assumption) rfl rfl rfl ?_
  refine hv_vret dX2_passOne_219 rfl ?_
  skip
  have z3 : ∀ c, c ∉ [28, 29, 30, 49, 50, 23, 25, 26] → σ4 c = σ c := off_tr (off_tr w3 v1 (Z := [28, 29, 30, 49, 50, 23, 25, 26]) (by decide) (by decide)) z1 (by decide) (by decide)
  obtain ⟨σ5, hσ5⟩ : ∃ σ5, va_up σ4 22 (upd (σ4 22) 6 (σ4 22 6 + 1)) = σ5 := ⟨_, rfl⟩
  have f1 : ∀ c, c ≠ 22 → σ5 c = σ4 c := fun c hc => by rw [← hσ5, hva_ne hc]
  have f6 : σ5 22 6 = σ 22 6 + 1 := by rw [← hσ5, hup_eq, pk_us, z3 22 (by decide)]
  have f7 : σ5 22 7 = σ 22 7 := by rw [← hσ5, hup_eq, pk_un (by decide), z3 22 (by decide)]
  have f5 : σ5 22 5 = σ 22 5 := by rw [← hσ5, hup_eq, pk_un (by decide), z3 22 (by decide)]
  have f0 : ∀ c, c ∉ [28, 29, 30, 49, 50, 22, 23, 25, 26] → σ5 c = σ c := fun c hc => by
    rw [f1 c (fun e => hc (by rw [e]; decide))]
    exact z3 c (fun q => hc (by simp at q ⊢; omega))
  rw [hσ5]
  refine ⟨rfl, rfl, rfl, f0, ?_, f5⟩
  have hd : dEq h (dyC σ2 22) (fAte (fEats (twC σ h sz) (dyC σ 22) (hsum (σ 23) h)) (dyC σ 22)) := by
    refine ⟨fun a ha => ?_, ?_, ?_⟩
    · obtain ⟨p1, p2, p3⟩ := w2 a ha
      rw [u1 23 (by decide), u2 a ha] at p1
      rw [u1 25 (by decide), u1 23 (by decide), u2 a ha] at p2
      rw [u1 26 (by decide), u2 a ha] at p3
      exact ⟨p1, congrFun (w3 24 (by decide)) a, p2, p3, congrFun (w3 27 (by decide)) a⟩
    · exact congrFun (w3 22 (by decide)) 6
    · exact congrFun (w3 22 (by decide)) 7
  have ht : tEq (twC σ2 h sz) (twC σ h sz) := by
    rw [twC_of w3 rfl]
    exact ⟨rfl, fun _ _ => ⟨rfl, rfl, rfl⟩, rfl, fun _ _ _ => rfl, fun k v w hv => lvalC_ext _ _ _ hv _ _ _⟩
  have hs := dEq.sum ht (show dEq (tH (twC σ2 h sz)) _ _ from hd)
  refine ⟨fun a ha => ?_, f6, f7⟩
  obtain ⟨p1, p2, p3, p4, p5⟩ := hd.1 a ha
  have g5 : ∀ c, c ∉ [22, 23, 30, 49, 50] → σ5 c = σ2 c := fun c hc => by
    simp only [List.mem_cons, List.not_mem_nil, or_false, not_or] at hc
    rw [f1 c hc.1, z1 c (by simp [hc.2.1]), v1 c (by simp [hc.2.2])]
  refine ⟨?_, (congrFun (g5 24 (by decide)) a).trans p2, (congrFun (g5 25 (by decide)) a).trans p3, (congrFun (g5 26 (by decide)) a).trans p4, (congrFun (g5 27 (by decide)) a).trans p5⟩
  have e1 : σ5 23 a = hmin 9999 (σ2 23 a - fRots (twC σ2 h sz) (dyC σ2 22) (hsum (σ2 23) h) a + (if gl = 0 then 0 else fGlut (twC σ h sz) (dyC σ 22) (hsum (σ 23) h) a)) := by
    rw [f1 23 (by decide), z2 a ha, v2 a ha, v1 23 (by decide), v1 29 (by decide), w1 29 (by decide), u3 a ha]
  refine Eq.trans (show dF (dyC σ5 22) a = _ from e1) ?_
  show hmin 9999 (dF (dyC σ2 22) a - fRots (twC σ2 h sz) (dyC σ2 22) (hsum (dF (dyC σ2 22)) (tH (twC σ2 h sz))) a + _) = _
  rw [fRots_congr ht hd ha, hs, p1]
  show _ = hmin 9999 (_ - _ + (if g = true then fGlut (twC σ h sz) (dyC σ 22) (hsum (σ 23) h) a else 0))
  cases g with
    | true => rw [if_neg (fun q => absurd (hgl.mp q) (by decide)), if_pos rfl]; rfl
    | false => rw [if_pos (hgl.mpr rfl), if_neg (by decide)]; rfl
end S14

