/-! read, of the reference -/
theorem side_l {l : Nat} (h : l < 2) : (1 : Int32) - nI l = nI (1 - l) := by
  rcases (show l = 0 ∨ l = 1 by omega) with rfl | rfl <;> decide
theorem mul_130 {l : Nat} (h : l < 2) : (130 : Int32) * nI l = nI (130 * l + 0) := by
  rcases (show l = 0 ∨ l = 1 by omega) with rfl | rfl <;> decide
theorem mul_420 {l : Nat} (h : l < 2) : (420 : Int32) * nI l = nI (420 * l + 0) := by
  rcases (show l = 0 ∨ l = 1 by omega) with rfl | rfl <;> decide
abbrev xRa : List Nat := [64, 66, 67, 68, 69, 73, 74, 75, 76, 77, 78, 79, 80, 81, 82, 83, 84, 85, 86, 87, 88, 89, 90, 91, 92, 93, 94, 95]
abbrev xRm : List Nat := [64, 66, 67, 68, 69, 73, 74, 75, 76, 77, 78, 79, 80, 81, 82, 83, 84, 85, 86, 87, 88, 89, 90, 91, 92, 93, 94, 95, 98, 99, 107]
abbrev fRa : List Nat := [2, 4, 10, 11, 12, 13, 14, 15, 16, 19, 20, 37, 43, 47]
/-- what goes on while a text is read -/
def frD (L : Nat) (σ : hS) (τ : hT) (σ1 : hS) (τ1 : hT) : Prop := (∀ c, c ∉ xRa → σ1 c = σ c) ∧ (∀ c, c ∉ [70, 72] → τ1 c = τ c) ∧ hlf L σ σ1 ∧ kM fRa σ σ1 ∧ σ1 64 2 = 0
/-- how the reference stands behind a text that is well told -/
def pMk (f : hF) (n L : Nat) (Ls : hLs) (S : hSm) (σ' : hS) : Prop := (σ' 74 L = nI (sH S) ∧ σ' 80 L = nI (sR S) ∧ σ' 81 L = nI (sM S)) ∧ okS S ∧ mTab L S σ' ∧ (∀ k, k < 5 → lwO L (130 * L + 100) (420 * L + 400) (5 * L + k) (Ls k) σ') ∧ (∀ j, j < 37 → σ' 99 j = if j = 35 then σ' 83 L else bgR σ' L (sH S) 7 j) ∧ (∀ j, j < 37 → σ' 98 j = σ' 99 j) ∧ ∀ s, s < 3 → σ' 107 s = 0
def pRm (f : hF) (n L : Nat) (σ σ' : hS) : Prop := match rdX f n with
  | .inl (_, t) => σ' 64 17 = nI (tq f n t) ∧ kM (17 :: fRa) σ σ' ∧ σ' 98 = σ 98 ∧ σ' 99 = σ 99 ∧ σ' 107 = σ 107
  | .inr (Ls, S) => σ' 64 17 = -1 ∧ kM (17 :: 18 :: 53 :: 57 :: 61 :: fRa) σ σ' ∧ σ' 64 18 = nI L ∧ σ' 64 53 = nI (sSe S) ∧ σ' 64 57 = 0 ∧ σ' 64 61 = 0 ∧ pMk f n L Ls S σ'
def qRm (f : hF) (n L : Nat) (r : hR) (σ : hS) (τ : hT) : hPo := fun v' r' σ' τ' => v' = some (.int (match rdX f n with | .inl (k, _) => nI k | .inr _ => 0)) ∧ r' = r ∧ (∀ c, c ∉ xRm → σ' c = σ c) ∧ (∀ c, c ∉ [70, 72] → τ' c = τ c) ∧ hlf L σ σ' ∧ σ' 64 2 = 0 ∧ pRm f n L σ σ'
def cnX (K V D : Nat → Nat) (k a h r m : Nat) (X : Sum (Nat × Nat) hSm) : Sum (Nat × Nat) hSm := match X with
  | .inl e => .inl e
  | .inr S => semX K V D k a h r m S
theorem cnX_s {K V D : Nat → Nat} {k a h r m b : Nat} {X : Sum (Nat × Nat) hSm} {l : Option (Nat × hLw)} (h25 : K a ≠ 25) (hX : tellX K V h r m a = .inr (b, l)) : cnX K V D (k + 1) a h r m X = cnX K V D k b (cnt K 0 h a) (cnt K 1 r a) (cnt K 2 m a) (stX K V D X a b) := by
  rcases X with e | S
  · rfl
  · show semX K V D (k + 1) a h r m S = _
    rw [semX_s, if_neg h25, hX]
    show (match smTell K V D S a b with | .inl x => .inl x | .inr S' => semX K V D k b _ _ _ S') = cnX K V D k b _ _ _ (smTell K V D S a b)
    rcases smTell K V D S a b with x | S' <;> rfl
theorem cnX_e {K V D : Nat → Nat} {k a h r m : Nat} {X : Sum (Nat × Nat) hSm} (h25 : K a = 25) : cnX K V D (k + 1) a h r m X = X := by
  rcases X with e | S
  · rfl
  · show semX K V D (k + 1) a h r m S = _
    rw [semX_s, if_pos h25]
def rdZ (Ls : hLs) : Sum (Nat × Nat) hSm → Sum (Nat × Nat) (hLs × hSm)
  | .inl e => .inl e
  | .inr S => .inr (Ls, S)
theorem rdX_of {f : hF} {n a h r m : Nat} {Ls : hLs} {X : Sum (Nat × Nat) hSm} (h1 : textX (kd f n) (vl f n) 401 0 0 0 0 (fun _ => none) = .inr (a, (h, r, m, Ls))) (h2 : cnX (kd f n) (vl f n) (dg f n) 401 0 0 0 0 (.inr sm0) = X) : rdX f n = rdZ Ls X := by
  have h3 : semX (kd f n) (vl f n) (dg f n) 401 0 0 0 0 sm0 = X := h2
  unfold rdX
  rw [h1, h3]
  rcases X with e | S <;> rfl
theorem tokM_of2 {X : List Nat} {f : hF} {n : Nat} {σ σ' : hS} {τ τ' : hT} (h : tokM f n σ τ) (hσ : ∀ k, k ∉ X → σ' k = σ k) (h70 : τ' 70 = τ 70) (hX : hdj X [67, 68, 69] = true) : tokM f n σ' τ' := by
  have e := tokM_of h hσ hX
  intro i hi
  rw [h70]
  exact e i hi
section S9l
variable {G : hGl} {σ : hS} {τ : hT} {x y : Option Nat}
theorem rd0 {f : hF} {n L : Nat} {σ : hS} {τ : hT} (h19 : σ 64 19 = nI L) (h74 : σ 74 L = 0) (h80 : σ 80 L = 0) (h81 : σ 81 L = 0) (h83 : σ 83 L = 20) (h84 : σ 84 L = 0) (h85 : σ 85 L = 0) (h79 : ∀ i, i < 7 → σ 79 (7 * L + i) = 0) (h86 : ∀ i, i < 5 → σ 86 (5 * L + i) = 0) (h87 : ∀ i, i < 5 → σ 87 (5 * L + i) = 0) (h20 : σ 64 20 = 0) (h15 : σ 64 15 = 0) (h12 : σ 64 12 = 0) (h37 : σ 64 37 = nI (130 * L + 0)) (h43 : σ 64 43 = nI (420 * L + 0)) : rdI f n L 0 0 0 0 (.inr sm0) (fun _ => none) σ τ := by
  refine ⟨⟨h19, h74, h80, h81, by decide⟩, ⟨fun _ => 0, fun _ => none, ⟨h20, by decide, by decide, fun k hk => absurd hk (by omega)⟩, h15, ⟨rfl, rfl, fun k i hk => absurd hk (by omega), fun i hi => absurd hi (by omega), fun k hk => absurd hk (by omega), fun j hj => absurd hj (by omega), fun i j hi => absurd hi (by omega)⟩, rfl, ?_, ?_⟩, ?_⟩
  · exact ⟨by decide, by decide, by decide, fun i hi => absurd hi (Nat.not_lt_zero _), fun i hi => absurd hi (Nat.not_lt_zero _), by decide, by decide, by decide⟩
  · exact ⟨fun i hi => absurd hi (Nat.not_lt_zero _), fun i _ h2 => h79 i h2, fun i hi => absurd hi (Nat.not_lt_zero _), h83, h84, h85⟩
  · exact ⟨0, 0, h37, h43, h12, by decide, by decide, fun k hk => ⟨h86 k hk, h87 k hk⟩⟩
theorem d_read {f : hF} {n l L : Nat} (hb : ∀ i, i < n → vp_nar .byte (σ 65 i) = f i) (hn : σ 64 2 = nI n) (hn2 : n ≤ 2000) (hkey : ∀ k, k < 23 → τ 71 k = lN (keyW k)) (hl : σ 64 18 = nI l) (hl2 : l < 2) (hL0 : L = 1 - l) : hCal G (m_X12_read (qRm f n L (rr 38 51 x y) σ τ)) [.ref (hgA G 64)] shp (rr 38 51 x y) σ τ := by
  have hL : L < 2 := by omega
  generalize hQ : qRm f n L (rr 38 51 x y) σ τ = Q
  have finF : ∀ (e : Nat × Nat) (σ1 : hS) (τ1 : hT), frD L σ τ σ1 τ1 → mSt f n (.inl e) σ1 → rdX f n = .inl e → hV G (m_X12_read Q) 0 0 shp 112 [some (.ref (hgA G 64)), some (.int (nI n))] [] (rr 38 51 x y) σ1 τ1 := by
    intro e σ1 τ1 ⟨f1, f2, f3, f4, f5⟩ hs hR
    obtain ⟨z, t⟩ := e
    obtain ⟨h1, h2, h3⟩ := hs
    have hne : ¬ σ1 64 13 = 0 := by rw [h1]; rcases h2 with q | q <;> rw [q] <;> decide
    have hnl : ¬ σ1 64 13 ≤ 0 := by rw [h1]; rcases h2 with q | q <;> rw [q] <;> decide
    refine hv_aload_n dX12_read_112 rfl ?_
    refine hv_geti dX12_read_113 fl_X12_203 (by first | rfl | assumption) rfl ?_
    refine hv_if_ne (tgt := 134) dX12_read_116 (by decide) (fun c_116 => ?_) (fun c_116 => absurd c_116 (hne))
    refine hv_aload_n dX12_read_134 rfl ?_
    refine hv_aload_n dX12_read_135 rfl ?_
    refine hv_geti dX12_read_136 fl_X12_203 (by first | rfl | assumption) rfl ?_
    refine hv_if_le (tgt := 149) dX12_read_139 (by decide) (fun c_139 => absurd c_139 (hnl)) (fun c_139 => ?_)
    refine hv_aload_n dX12_read_142 rfl ?_
    refine hv_geti dX12_read_143 fl_X12_209 (by first | rfl | assumption) rfl ?_
    refine hv_goto (tgt := 164) dX12_read_146 (by decide) ?_
    refine hv_puti dX12_read_164 fl_X12_37 (by first | rfl | assumption) rfl rfl rfl ?_
    refine hv_aload_n dX12_read_167 rfl ?_
    refine hv_geti dX12_read_168 fl_X12_203 (by first | rfl | assumption) rfl ?_
    refine hv_if_le (tgt := 179) dX12_read_171 (by decide) (fun c_171 => absurd c_171 (hnl)) (fun c_171 => ?_)
    refine hv_aload_n dX12_read_174 rfl ?_
    refine hv_geti dX12_read_175 fl_X12_203 (by first | rfl | assumption) rfl ?_
    refine hv_iret dX12_read_178 rfl ?_
    rw [← hQ]
    refine ⟨?_, rfl, off_up (off_wk f1 (by decide)) (by decide), f2, hlf_tr f3 (hlf_64 (off_up (fun _ _ => rfl) (by decide))), by rw [hup_eq, pk_un (by decide)]; exact f5, ?_⟩
    · rw [hR]; exact congrArg (fun q => some (Value.int q)) h1
    · unfold pRm
      rw [hR]
      refine ⟨by rw [hup_eq, pk_us]; exact h3, kM_tr f4 (kM_up (X := [17]) (by decide)) (by decide) (by decide), ?_, ?_, ?_⟩
      · rw [hva_ne (by decide)]; exact f1 98 (by decide)
      · rw [hva_ne (by decide)]; exact f1 99 (by decide)
      · rw [hva_ne (by decide)]; exact f1 107 (by decide)
  have held : ∀ k i (σ1 : hS) (τ1 : hT), i + k = 3 → (∀ σ2 : hS, (∀ c, c ∉ [107] → σ2 c = σ1 c) → (∀ s, s < i → σ2 107 s = σ1 107 s) → (∀ s, i ≤ s → s < 3 → σ2 107 s = 0) → Q (some (.int 0)) (rr 38 51 x y) σ2 τ1) → hV G (m_X12_read Q) 0 0 shp 219 [some (.ref (hgA G 64)), some (.int (nI i))] [] (rr 38 51 x y) σ1 τ1 := by
    intro k
    induction k with
    | zero =>
      intro i σ1 τ1 hi h
      obtain rfl : i = 3 := by omega
      refine hv_iload_n dX12_read_219 rfl ?_
      refine hv_iconst (v := 3) dX12_read_220 (by decide) ?_
      refine hv_icmp_ge (tgt := 237) dX12_read_221 (by decide) (fun c_221 => ?_) (fun c_221 => absurd ((by decide)) c_221)
      refine hv_iconst (v := 0) dX12_read_237 (by decide) ?_
      refine hv_iret dX12_read_238 rfl ?_
      exact h σ1 (fun _ _ => rfl) (fun _ _ => rfl) (fun s h1 h2 => absurd h2 (by omega))
    | succ k ih =>
      intro i σ1 τ1 hi h
      refine hv_iload_n dX12_read_219 rfl ?_
      refine hv_iconst (v := 3) dX12_read_220 (by decide) ?_
      refine hv_icmp_ge (tgt := 237) dX12_read_221 (by decide) (fun c_221 => absurd c_221 ((nI_ge (b := 3) (by omega) (by decide)))) (fun c_221 => ?_)
      refine hv_aload_n dX12_read_224 rfl ?_
      refine hv_getr dX12_read_225 fl_X12_146 (by first | rfl | assumption) rfl (by first | rfl | assumption) ?_
      refine hv_iload_n dX12_read_228 rfl ?_
      refine hv_iconst (v := 0) dX12_read_229 (by decide) ?_
      refine hv_zast dX12_read_230 (by first | rfl | assumption) (j := i) rfl (by omega) (by first | decide | assumption) ?_
      refine hv_iinc dX12_read_231 rfl (nI_1 i) rfl rfl ?_
      refine hv_goto (tgt := 219) dX12_read_234 (by decide) ?_
      refine ih (i + 1) _ τ1 (by omega) (fun σ2 h1 h2 h3 => h σ2 (fun c hc => by rw [h1 c hc, hva_ne (by simp only [List.mem_singleton] at hc; omega)]) (fun s hs => ?_) (fun s s1 s2 => ?_))
      · rw [h2 s (by omega), hup_eq, pk_un (by omega)]
      · by_cases e : s = i
        · subst e; rw [h2 s (by omega), hup_eq, pk_us]; rfl
        · exact h3 s (by omega) s2
  have loop : ∀ k a h r m (X : Sum (Nat × Nat) hSm) (Ls : hLs) (σ1 : hS) (τ1 : hT), 401 ≤ a + k → frD L σ τ σ1 τ1 → tokM f n σ1 τ1 → mSt f n (.inr (a, ())) σ1 → rdI f n L h r m a X Ls σ1 τ1 → textX (kd f n) (vl f n) 401 0 0 0 0 (fun _ => none) = textX (kd f n) (vl f n) k a h r m Ls → cnX (kd f n) (vl f n) (dg f n) 401 0 0 0 0 (.inr sm0) = cnX (kd f n) (vl f n) (dg f n) k a h r m X → hV G (m_X12_read Q) 0 0 shp 112 [some (.ref (hgA G 64)), some (.int (nI n))] [] (rr 38 51 x y) σ1 τ1 := by
    intro k
    induction k with
    | zero =>
      intro a h r m X Ls σ1 τ1 hk hF ht hs hI hT hX
      have := hs.2.2.1
      omega
    | succ k ih =>
      intro a h r m X Ls σ1 τ1 hk hF ht hs hI hT hX
      have hF0 := hF
      obtain ⟨f1, f2, f3, f4, f5⟩ := hF
      have h13 := hs.1
      by_cases c25 : kd f n a = 25
      · rw [textX_s (kd f n) (vl f n) k a h r m Ls, if_pos c25] at hT
        rw [cnX_e c25] at hX
        have hR := rdX_of hT hX
        unfold rdZ at hR
        obtain ⟨⟨i1, i2, i3, i4, i5⟩, ⟨dT, ix, i6, i7⟩, i8⟩ := hI
        rcases X with ⟨z, t⟩ | S
        · obtain ⟨⟨w1, w2, w3⟩, w4⟩ := i7
          have hnl : ¬ σ1 64 15 ≤ 0 := by rw [w1]; rcases w2 with q | q | q <;> rw [q] <;> decide
          refine hv_aload_n dX12_read_112 rfl ?_
          refine hv_geti dX12_read_113 fl_X12_203 (by first | rfl | assumption) rfl ?_
          refine hv_if_ne (tgt := 134) dX12_read_116 (by decide) (fun c_116 => absurd (h13) c_116) (fun c_116 => ?_)
          refine hv_aload_n dX12_read_119 rfl ?_
          refine hv_iconst (v := 0) dX12_read_120 (by decide) ?_
          refine hv_cv1 (d_is (k := 25) (by decide) (by decide) ht hs) dX12_read_121 ml_X12_221 mk_X12_is (by first | rfl | assumption) rfl rfl rfl rfl rfl ?_
          rintro _ _ _ _ ⟨rfl, rfl, rfl, rfl⟩
          rw [isM_t c25]
          refine hv_if_ne (tgt := 134) dX12_read_124 (by decide) (fun c_124 => ?_) (fun c_124 => absurd c_124 ((show ¬ bI true = 0 by decide)))
          refine hv_aload_n dX12_read_134 rfl ?_
          refine hv_aload_n dX12_read_135 rfl ?_
          refine hv_geti dX12_read_136 fl_X12_203 (by first | rfl | assumption) rfl ?_
          refine hv_if_le (tgt := 149) dX12_read_139 (by decide) (fun c_139 => ?_) (fun c_139 => absurd ((by rw [h13]; decide)) c_139)
          refine hv_aload_n dX12_read_149 rfl ?_
          refine hv_geti dX12_read_150 fl_X12_212 (by first | rfl | assumption) rfl ?_
          refine hv_if_le (tgt := 163) dX12_read_153 (by decide) (fun c_153 => absurd c_153 (hnl)) (fun c_153 => ?_)
          refine hv_aload_n dX12_read_156 rfl ?_
          refine hv_geti dX12_read_157 fl_X12_215 (by first | rfl | assumption) rfl ?_
          refine hv_goto (tgt := 164) dX12_read_160 (by decide) ?_
          refine hv_puti dX12_read_164 fl_X12_37 (by first | rfl | assumption) rfl rfl rfl ?_
          refine hv_aload_n dX12_read_167 rfl ?_
          refine hv_geti dX12_read_168 fl_X12_203 (by first | rfl | assumption) rfl ?_
          refine hv_if_le (tgt := 179) dX12_read_171 (by decide) (fun c_171 => ?_) (fun c_171 => absurd ((show σ1 64 13 ≤ 0 by rw [h13]; decide)) c_171)
          refine hv_aload_n dX12_read_179 rfl ?_
          refine hv_geti dX12_read_180 fl_X12_212 (by first | rfl | assumption) rfl ?_
          refine hv_if_le (tgt := 191) dX12_read_183 (by decide) (fun c_183 => absurd c_183 (hnl)) (fun c_183 => ?_)
          refine hv_aload_n dX12_read_186 rfl ?_
          refine hv_geti dX12_read_187 fl_X12_212 (by first | rfl | assumption) rfl ?_
          refine hv_iret dX12_read_190 rfl ?_
          rw [← hQ]
          refine ⟨?_, rfl, off_up (off_wk f1 (by decide)) (by decide), f2, hlf_tr f3 (hlf_64 (off_up (fun _ _ => rfl) (by decide))), by rw [hup_eq, pk_un (by decide)]; exact f5, ?_⟩
          · rw [hR]; exact congrArg (fun q => some (Value.int q)) w1
          · unfold pRm
            rw [hR]
            refine ⟨by rw [hup_eq, pk_us]; exact w3, kM_tr f4 (kM_up (X := [17]) (by decide)) (by decide) (by decide), ?_, ?_, ?_⟩
            · rw [hva_ne (by decide)]; exact f1 98 (by decide)
            · rw [hva_ne (by decide)]; exact f1 99 (by decide)
            · rw [hva_ne (by decide)]; exact f1 107 (by decide)
        · obtain ⟨w1, w2, w3, w4, w5⟩ := i7
          have w1' : σ1 64 15 = 0 := w1
          have hsH := w2.1
          have h7 := w4.1
          have at199 : ∀ σz : hS, (∀ c, c ∉ [64] → σz c = σ1 c) → kM [17, 18] σ1 σz → σz 64 17 = -1 → σz 64 18 = nI L → hV G (m_X12_read Q) 0 0 shp 199 [some (.ref (hgA G 64)), some (.int (nI n))] [] (rr 38 51 x y) σz τ1 := by
            intro σz z1 z2 z3 z4
            refine hv_aload_n dX12_read_199 rfl ?_
            refine hv_cv0 (d_begins (L := L) (h := h) z4 hL (by rw [z1 74 (by decide)]; exact i2) (by omega)) dX12_read_200 ml_X12_160 mk_X12_begins (by first | rfl | assumption) rfl rfl rfl rfl rfl ?_
            rintro _ _ σ2 _ ⟨rfl, rfl, rfl, b1, b2, b3, b4⟩
            refine hv_aload_n dX12_read_203 rfl ?_
            refine hv_cv0 (d_keepsRow) dX12_read_204 ml_X12_163 mk_X12_keepsRow (by first | rfl | assumption) rfl rfl rfl rfl rfl ?_
            rintro _ _ σ3 _ ⟨rfl, rfl, rfl, e1, e2⟩
            refine hv_aload_n dX12_read_207 rfl ?_
            refine hv_iconst (v := 0) dX12_read_208 (by decide) ?_
            refine hv_puti dX12_read_209 fl_X12_251 (by first | rfl | assumption) rfl rfl rfl ?_
            refine hv_aload_n dX12_read_212 rfl ?_
            refine hv_iconst (v := 0) dX12_read_213 (by decide) ?_
            refine hv_puti dX12_read_214 fl_X12_254 (by first | rfl | assumption) rfl rfl rfl ?_
            refine hv_iconst (v := 0) dX12_read_217 (by decide) ?_
            refine hv_istore_n dX12_read_218 rfl rfl ?_
            refine held 3 0 _ τ1 rfl (fun σ4 g1 _ g3 => ?_)
            have o3 : ∀ c, c ∉ [64, 98, 99] → σ3 c = σ1 c := off_tr (off_tr z1 b1 (Z := [64, 99]) (by decide) (by decide)) e1 (by decide) (by decide)
            have o4 : ∀ c, c ∉ [64, 98, 99, 107] → σ4 c = σ1 c := fun c hc => by
              simp only [List.mem_cons, List.not_mem_nil, or_false, not_or] at hc
              rw [g1 c (by simp; omega), hva_ne (by omega), hva_ne (by omega)]
              exact o3 c (by simp; omega)
            have k3 : kM [17, 18, 53] σ1 σ3 := fun j hj => by
              rw [e1 64 (by decide)]
              exact (kM_tr z2 b2 (Z := [17, 18, 53]) (by decide) (by decide)) j hj
            have e4 : ∀ j, σ4 64 j = upd (upd (σ3 64) 57 0) 61 0 j := fun j => by rw [g1 64 (by decide), hup_eq, hup_eq]
            have k4 : kM [17, 18, 53, 57, 61] σ1 σ4 := fun j hj => by
              simp only [List.mem_cons, List.not_mem_nil, or_false, not_or] at hj
              rw [e4, pk_un (by omega), pk_un (by omega)]
              exact k3 j (by simp; omega)
            have e98 : ∀ j, j < 37 → σ4 98 j = σ4 99 j := fun j hj => by
              rw [g1 98 (by decide), g1 99 (by decide), hva_ne (by decide), hva_ne (by decide), hva_ne (by decide), hva_ne (by decide), e2 j hj, e1 99 (by decide)]
            have ebg : ∀ j, bgR σ4 L h 7 j = bgR σz L h 7 j := fun j => by
              unfold bgR
              rw [o4 75 (by decide), o4 76 (by decide), z1 75 (by decide), z1 76 (by decide)]
            rw [← hQ]
            refine ⟨?_, rfl, ?_, f2, hlf_tr f3 (hlf_off o4 (by decide)), ?_, ?_⟩
            · rw [hR]
            · exact off_tr f1 o4 (by decide) (by decide)
            · exact (k4 2 (by decide)).trans f5
            · unfold pRm
              rw [hR]
              refine ⟨?_, kM_tr f4 k4 (by decide) (by decide), ?_, ?_, ?_, ?_, ?_⟩
              · rw [e4, pk_un (by decide), pk_un (by decide), e1 64 (by decide), b2 17 (by decide)]; exact z3
              · rw [e4, pk_un (by decide), pk_un (by decide), e1 64 (by decide), b2 18 (by decide)]; exact z4
              · rw [e4, pk_un (by decide), pk_un (by decide), e1 64 (by decide), b3, z1 85 (by decide)]; exact w5.2.2.2.2.2
              · rw [e4, pk_un (by decide), pk_us]
              · rw [e4, pk_us]
              · refine ⟨⟨by rw [o4 74 (by decide), hsH]; exact i2, by rw [o4 80 (by decide), w3]; exact i3, by rw [o4 81 (by decide), w2.2.1]; exact i4⟩, w4, mTab_of w5 o4 (by decide), ?_, ?_, e98, fun s hs => g3 s (Nat.zero_le _) hs⟩
                · intro k hk
                  obtain ⟨b0, p0, -, -, -, q4, q5, q6⟩ := i8
                  have ha := hs.2.2.1
                  exact lwO_ext (q6 k hk) (by omega) (by omega) (by rw [o4 86 (by decide)]) (by rw [o4 87 (by decide)]) (fun j _ => by rw [o4 88 (by decide), o4 89 (by decide), o4 90 (by decide), o4 91 (by decide), o4 92 (by decide)]; exact ⟨rfl, rfl, rfl, rfl, rfl⟩) (fun j _ => by rw [o4 93 (by decide), o4 94 (by decide)]; exact ⟨rfl, rfl⟩)
                · intro j hj
                  rw [hsH, ebg, o4 83 (by decide), g1 99 (by decide), hva_ne (by decide), hva_ne (by decide), e1 99 (by decide), b4 j hj, z1 83 (by decide)]
          refine hv_aload_n dX12_read_112 rfl ?_
          refine hv_geti dX12_read_113 fl_X12_203 (by first | rfl | assumption) rfl ?_
          refine hv_if_ne (tgt := 134) dX12_read_116 (by decide) (fun c_116 => absurd (h13) c_116) (fun c_116 => ?_)
          refine hv_aload_n dX12_read_119 rfl ?_
          refine hv_iconst (v := 0) dX12_read_120 (by decide) ?_
          refine hv_cv1 (d_is (k := 25) (by decide) (by decide) ht hs) dX12_read_121 ml_X12_221 mk_X12_is (by first | rfl | assumption) rfl rfl rfl rfl rfl ?_
          rintro _ _ _ _ ⟨rfl, rfl, rfl, rfl⟩
          rw [isM_t c25]
          refine hv_if_ne (tgt := 134) dX12_read_124 (by decide) (fun c_124 => ?_) (fun c_124 => absurd c_124 ((show ¬ bI true = 0 by decide)))
          refine hv_aload_n dX12_read_134 rfl ?_
          refine hv_aload_n dX12_read_135 rfl ?_
          refine hv_geti dX12_read_136 fl_X12_203 (by first | rfl | assumption) rfl ?_
          refine hv_if_le (tgt := 149) dX12_read_139 (by decide) (fun c_139 => ?_) (fun c_139 => absurd ((by rw [h13]; decide)) c_139)
          refine hv_aload_n dX12_read_149 rfl ?_
          refine hv_geti dX12_read_150 fl_X12_212 (by first | rfl | assumption) rfl ?_
          refine hv_if_le (tgt := 163) dX12_read_153 (by decide) (fun c_153 => ?_) (fun c_153 => absurd ((by rw [w1']; decide)) c_153)
          refine hv_iconst (v := -1) dX12_read_163 (by decide) ?_
          refine hv_puti dX12_read_164 fl_X12_37 (by first | rfl | assumption) rfl rfl rfl ?_
          refine hv_aload_n dX12_read_167 rfl ?_
          refine hv_geti dX12_read_168 fl_X12_203 (by first | rfl | assumption) rfl ?_
          refine hv_if_le (tgt := 179) dX12_read_171 (by decide) (fun c_171 => ?_) (fun c_171 => absurd ((show σ1 64 13 ≤ 0 by rw [h13]; decide)) c_171)
          refine hv_aload_n dX12_read_179 rfl ?_
          refine hv_geti dX12_read_180 fl_X12_212 (by first | rfl | assumption) rfl ?_
          refine hv_if_le (tgt := 191) dX12_read_183 (by decide) (fun c_183 => ?_) (fun c_183 => absurd ((show σ1 64 15 ≤ 0 by rw [w1']; decide)) c_183)
          refine hv_aload_n dX12_read_191 rfl ?_
          refine hv_aload_n dX12_read_192 rfl ?_
          refine hv_geti dX12_read_193 fl_X12_236 (by first | rfl | assumption) rfl ?_
          refine hv_puti dX12_read_196 fl_X12_233 (by first | rfl | assumption) rfl rfl rfl ?_
          exact at199 _ (off_up (off_up (fun _ _ => rfl) (by decide)) (by decide)) (kM_tr (kM_up (X := [17]) (by decide)) (kM_up (X := [18]) (by decide)) (by decide) (by decide)) rfl i1
      · rcases hX2 : tellX (kd f n) (vl f n) h r m a with e | ⟨b, l⟩
        · have hR : rdX f n = .inl e := rd_l (by rw [hT, textX_s, if_neg c25, hX2]; rfl)
          refine hv_aload_n dX12_read_112 rfl ?_
          refine hv_geti dX12_read_113 fl_X12_203 (by first | rfl | assumption) rfl ?_
          refine hv_if_ne (tgt := 134) dX12_read_116 (by decide) (fun c_116 => absurd (h13) c_116) (fun c_116 => ?_)
          refine hv_aload_n dX12_read_119 rfl ?_
          refine hv_iconst (v := 0) dX12_read_120 (by decide) ?_
          refine hv_cv1 (d_is (k := 25) (by decide) (by decide) ht hs) dX12_read_121 ml_X12_221 mk_X12_is (by first | rfl | assumption) rfl rfl rfl rfl rfl ?_
          rintro _ _ _ _ ⟨rfl, rfl, rfl, rfl⟩
          rw [isM_f c25]
          refine hv_if_ne (tgt := 134) dX12_read_124 (by decide) (fun c_124 => absurd ((show bI false = 0 by decide)) c_124) (fun c_124 => ?_)
          refine hv_aload_n dX12_read_127 rfl ?_
          refine hv_cv0 (d_tellOne (L := L) ht hn2 hL hs c25 hI) dX12_read_128 ml_X12_248 mk_X12_tellOne (by first | rfl | assumption) rfl rfl rfl rfl rfl ?_
          rintro _ _ σ2 τ2 ⟨rfl, rfl, b1, b2, b3, b4, b5, b6⟩
          refine hv_goto (tgt := 112) dX12_read_131 (by decide) ?_
          refine finF e σ2 τ2 ⟨off_tr f1 b1 (by decide) (by decide), fun c hc => (b2 c (by revert hc; simp)).trans (f2 c hc), hlf_tr f3 b4, kM_tr f4 b3 (by decide) (by decide), (b3 2 (by decide)).trans f5⟩ (by rw [hX2] at b5; exact b5) hR
        · have hp := tl_ok hs.2.2.1 hX2
          refine hv_aload_n dX12_read_112 rfl ?_
          refine hv_geti dX12_read_113 fl_X12_203 (by first | rfl | assumption) rfl ?_
          refine hv_if_ne (tgt := 134) dX12_read_116 (by decide) (fun c_116 => absurd (h13) c_116) (fun c_116 => ?_)
          refine hv_aload_n dX12_read_119 rfl ?_
          refine hv_iconst (v := 0) dX12_read_120 (by decide) ?_
          refine hv_cv1 (d_is (k := 25) (by decide) (by decide) ht hs) dX12_read_121 ml_X12_221 mk_X12_is (by first | rfl | assumption) rfl rfl rfl rfl rfl ?_
          rintro _ _ _ _ ⟨rfl, rfl, rfl, rfl⟩
          rw [isM_f c25]
          refine hv_if_ne (tgt := 134) dX12_read_124 (by decide) (fun c_124 => absurd ((show bI false = 0 by decide)) c_124) (fun c_124 => ?_)
          refine hv_aload_n dX12_read_127 rfl ?_
          refine hv_cv0 (d_tellOne (L := L) ht hn2 hL hs c25 hI) dX12_read_128 ml_X12_248 mk_X12_tellOne (by first | rfl | assumption) rfl rfl rfl rfl rfl ?_
          rintro _ _ σ2 τ2 ⟨rfl, rfl, b1, b2, b3, b4, b5, b6⟩
          refine hv_goto (tgt := 112) dX12_read_131 (by decide) ?_
          refine ih b _ _ _ _ _ σ2 τ2 (by have := hp.1; omega) ⟨off_tr f1 b1 (by decide) (by decide), fun c hc => (b2 c (by revert hc; simp)).trans (f2 c hc), hlf_tr f3 b4, kM_tr f4 b3 (by decide) (by decide), (b3 2 (by decide)).trans f5⟩ (tokM_of2 ht b1 (b2 70 (by decide)) (by decide)) (by rw [hX2] at b5; exact b5) (b6 b l hX2) (by rw [hT, textX_s, if_neg c25, hX2]; rfl) (by rw [hX, cnX_s c25 hX2])
  have at80 : ∀ (σ3 : hS) (τ3 : hT), (∀ c, c ∉ [64, 66, 67, 68, 69] → σ3 c = σ c) → (∀ c, c ∉ [70] → τ3 c = τ c) → kM [2, 4, 10, 11, 12, 13, 15, 19, 20] σ σ3 → σ3 64 2 = 0 → tokM f n σ3 τ3 → σ3 64 11 = 0 → σ3 64 12 = 0 → σ3 64 13 = 0 → σ3 64 15 = 0 → σ3 64 19 = nI L → σ3 64 20 = 0 → hV G (m_X12_read Q) 0 0 shp 80 [some (.ref (hgA G 64)), some (.int (nI n))] [] (rr 38 51 x y) σ3 τ3 := by
    intro σ3 τ3 a1 a2 a3 a4 a5 h11 h12 h13 h15 h19 h20
    refine hv_aload_n dX12_read_80 rfl ?_
    refine hv_aload_n dX12_read_81 rfl ?_
    refine hv_geti dX12_read_82 fl_X12_236 (by first | rfl | assumption) rfl ?_
    rw [h19]
    refine hv_cv1 (d_plain (L := L) hL) dX12_read_85 ml_X12_152 mk_X12_plain (by first | rfl | assumption) rfl rfl rfl rfl rfl ?_
    rintro _ _ σ4 _ ⟨rfl, rfl, rfl, o4, p74, p80, p81, p83, p84, p85, p79, p86, p87⟩
    refine hv_aload_n dX12_read_88 rfl ?_
    refine hv_sipush (v := 130) dX12_read_89 (by decide) ?_
    refine hv_aload_n dX12_read_92 rfl ?_
    refine hv_geti dX12_read_93 fl_X12_236 (by first | rfl | assumption) rfl ?_
    refine hv_imul dX12_read_96 ?_
    refine hv_puti dX12_read_97 fl_X12_242 (by first | rfl | assumption) rfl rfl rfl ?_
    refine hv_aload_n dX12_read_100 rfl ?_
    refine hv_sipush (v := 420) dX12_read_101 (by decide) ?_
    refine hv_aload_n dX12_read_104 rfl ?_
    refine hv_geti dX12_read_105 fl_X12_236 (by first | rfl | assumption) rfl ?_
    refine hv_imul dX12_read_108 ?_
    refine hv_puti dX12_read_109 fl_X12_245 (by first | rfl | assumption) rfl rfl rfl ?_
    have o5 : ∀ c, c ∉ [64] → (va_up (va_up σ4 64 (upd (σ4 64) 37 (130 * σ4 64 19))) 64 (upd (va_up σ4 64 (upd (σ4 64) 37 (130 * σ4 64 19)) 64) 43 (420 * σ4 64 19))) c = σ4 c := off_up (off_up (fun _ _ => rfl) (by decide)) (by decide)
    have k5 : kM [37, 43] σ4 (va_up (va_up σ4 64 (upd (σ4 64) 37 (130 * σ4 64 19))) 64 (upd (va_up σ4 64 (upd (σ4 64) 37 (130 * σ4 64 19)) 64) 43 (420 * σ4 64 19))) := kM_tr (kM_up (X := [37]) (by decide)) (kM_up (X := [43]) (by decide)) (by decide) (by decide)
    have e64 := o4 64 (by decide)
    refine loop 401 0 0 0 0 (.inr sm0) (fun _ => none) (va_up (va_up σ4 64 (upd (σ4 64) 37 (130 * σ4 64 19))) 64 (upd (va_up σ4 64 (upd (σ4 64) 37 (130 * σ4 64 19)) 64) 43 (420 * σ4 64 19))) τ3 (by omega) ⟨?_, ?_, ?_, ?_, ?_⟩ ?_ ?_ ?_ rfl rfl
    · exact off_tr (off_tr a1 o4 (Z := xRa) (by decide) (by decide)) o5 (by decide) (by decide)
    · exact fun c hc => a2 c (by revert hc; simp; omega)
    · refine hlf_tr (hlf_tr (hlf_off a1 (by decide)) ?_) (hlf_64 o5)
      exact hlf_in (R := [(74, 1), (80, 1), (81, 1), (83, 1), (84, 1), (85, 1), (79, 7), (86, 5), (87, 5)]) o4 (by decide) ⟨fun j hj => by rw [p74, pk_un (by omega)], fun j hj => by rw [p80, pk_un (by omega)], fun j hj => by rw [p81, pk_un (by omega)], fun j hj => by rw [p83, pk_un (by omega)], fun j hj => by rw [p84, pk_un (by omega)], fun j hj => by rw [p85, pk_un (by omega)], fun j hj => p79.2 j hj, fun j hj => p86.2 j hj, fun j hj => p87.2 j hj, trivial⟩
    · intro j hj
      rw [k5 j (by revert hj; simp; omega), e64]
      exact a3 j (by revert hj; simp; omega)
    · rw [k5 2 (by decide), e64]; exact a4
    · exact tokM_of (tokM_of a5 o4 (by decide)) o5 (by decide)
    · exact ⟨by rw [k5 13 (by decide), e64]; exact h13, by rw [k5 11 (by decide), e64]; exact h11, by decide, fun j hj => absurd hj (Nat.not_lt_zero _)⟩
    · refine rd0 ?_ ?_ ?_ ?_ ?_ ?_ ?_ ?_ ?_ ?_ ?_ ?_ ?_ ?_ ?_
      · rw [k5 19 (by decide), e64]; exact h19
      · rw [o5 74 (by decide), p74, pk_us]
      · rw [o5 80 (by decide), p80, pk_us]
      · rw [o5 81 (by decide), p81, pk_us]
      · rw [o5 83 (by decide), p83, pk_us]
      · rw [o5 84 (by decide), p84, pk_us]
      · rw [o5 85 (by decide), p85, pk_us]
      · intro i hi; rw [o5 79 (by decide)]; exact p79.1 i hi
      · intro i hi; rw [o5 86 (by decide)]; exact p86.1 i hi
      · intro i hi; rw [o5 87 (by decide)]; exact p87.1 i hi
      · rw [k5 20 (by decide), e64]; exact h20
      · rw [k5 15 (by decide), e64]; exact h15
      · rw [k5 12 (by decide), e64]; exact h12
      · rw [hup_eq, pk_un (by decide), hup_eq, pk_us, e64, h19, mul_130 hL]
      · rw [hup_eq, pk_us, e64, h19, mul_420 hL]
  have copy : ∀ k i (σ1 : hS), i + k = n → (∀ c, c ∉ [64, 66] → σ1 c = σ c) → kM [4] σ σ1 → σ1 64 4 = nI n → (∀ j, j < i → σ1 66 j = f j) → hV G (m_X12_read Q) 0 0 shp 10 [some (.ref (hgA G 64)), some (.int (nI i))] [] (rr 38 51 x y) σ1 τ := by
    intro k
    induction k with
    | zero =>
      intro i σ1 hi o1 k1 h4 h66
      obtain rfl : i = n := by omega
      refine hv_iload_n dX12_read_10 rfl ?_
      refine hv_aload_n dX12_read_11 rfl ?_
      refine hv_geti dX12_read_12 fl_X12_172 (by first | rfl | assumption) rfl ?_
      refine hv_icmp_ge (tgt := 36) dX12_read_15 (by decide) (fun c_15 => ?_) (fun c_15 => absurd ((by rw [h4]; exact Int32.le_refl _)) c_15)
      refine hv_aload_n dX12_read_36 rfl ?_
      refine hv_iconst (v := 0) dX12_read_37 (by decide) ?_
      refine hv_puti dX12_read_38 fl_X12_166 (by first | rfl | assumption) rfl rfl rfl ?_
      refine hv_aload_n dX12_read_41 rfl ?_
      refine hv_cv0 (d_cut (f := f) (n := i) (fun j hj => (by rw [hva_ne (by decide)]; exact h66 j hj)) (by rw [hup_eq, pk_un (by decide)]; exact h4) hn2 hkey) dX12_read_42 ml_X12_227 mk_X12_cut (by first | rfl | assumption) rfl rfl rfl rfl rfl ?_
      rintro _ _ σ2 τ2 ⟨rfl, rfl, c1, c2, c3, c4⟩
      have z1 : kM [2] σ1 (va_up σ1 64 (upd (σ1 64) 2 0)) := kM_up (by decide)
      have z2 : kM [2, 4, 10] σ σ2 := kM_tr (kM_tr k1 z1 (Z := [2, 4]) (by decide) (by decide)) (fun j hj => c4 j (by simpa using hj) : kM [10] _ σ2) (by decide) (by decide)
      refine hv_aload_n dX12_read_45 rfl ?_
      refine hv_iconst (v := 0) dX12_read_46 (by decide) ?_
      refine hv_puti dX12_read_47 fl_X12_206 (by first | rfl | assumption) rfl rfl rfl ?_
      refine hv_aload_n dX12_read_50 rfl ?_
      refine hv_iconst (v := 0) dX12_read_51 (by decide) ?_
      refine hv_puti dX12_read_52 fl_X12_230 (by first | rfl | assumption) rfl rfl rfl ?_
      refine hv_aload_n dX12_read_55 rfl ?_
      refine hv_iconst (v := 0) dX12_read_56 (by decide) ?_
      refine hv_puti dX12_read_57 fl_X12_203 (by first | rfl | assumption) rfl rfl rfl ?_
      refine hv_aload_n dX12_read_60 rfl ?_
      refine hv_iconst (v := 0) dX12_read_61 (by decide) ?_
      refine hv_puti dX12_read_62 fl_X12_212 (by first | rfl | assumption) rfl rfl rfl ?_
      refine hv_aload_n dX12_read_65 rfl ?_
      refine hv_iconst (v := 1) dX12_read_66 (by decide) ?_
      refine hv_aload_n dX12_read_67 rfl ?_
      refine hv_geti dX12_read_68 fl_X12_233 (by first | rfl | assumption) rfl ?_
      refine hv_isub dX12_read_71 ?_
      refine hv_puti dX12_read_72 fl_X12_236 (by first | rfl | assumption) rfl rfl rfl ?_
      refine hv_aload_n dX12_read_75 rfl ?_
      refine hv_iconst (v := 0) dX12_read_76 (by decide) ?_
      refine hv_puti dX12_read_77 fl_X12_239 (by first | rfl | assumption) rfl rfl rfl ?_
      refine at80 _ τ2 ?_ c2 ?_ ?_ ?_ rfl rfl rfl rfl ?_ rfl
      · exact off_up (off_up (off_up (off_up (off_up (off_up (off_tr (off_up (off_wk o1 (Z := [64, 66]) (by decide)) (by decide)) c1 (by decide) (by decide)) (by decide)) (by decide)) (by decide)) (by decide)) (by decide)) (by decide)
      · exact kM_tr (kM_tr (kM_tr (kM_tr (kM_tr (kM_tr z2 (kM_up (X := [11]) (by decide)) (Z := [2, 4, 10, 11]) (by decide) (by decide)) (kM_up (X := [12]) (by decide)) (Z := [2, 4, 10, 11, 12]) (by decide) (by decide)) (kM_up (X := [13]) (by decide)) (Z := [2, 4, 10, 11, 12, 13]) (by decide) (by decide)) (kM_up (X := [15]) (by decide)) (Z := [2, 4, 10, 11, 12, 13, 15]) (by decide) (by decide)) (kM_up (X := [19]) (by decide)) (Z := [2, 4, 10, 11, 12, 13, 15, 19]) (by decide) (by decide)) (kM_up (X := [20]) (by decide)) (by decide) (by decide)
      · show σ2 64 2 = 0
        rw [c4 2 (by decide), hup_eq, pk_us]
      · exact tokM_of c3 (off_up (off_up (off_up (off_up (off_up (off_up (X := [64]) (fun _ _ => rfl) (by decide)) (by decide)) (by decide)) (by decide)) (by decide)) (by decide)) (by decide)
      · show (1 : Int32) - σ2 64 18 = nI L
        rw [z2 18 (by decide), hl, side_l hl2, hL0]
    | succ k ih =>
      intro i σ1 hi o1 k1 h4 h66
      refine hv_iload_n dX12_read_10 rfl ?_
      refine hv_aload_n dX12_read_11 rfl ?_
      refine hv_geti dX12_read_12 fl_X12_172 (by first | rfl | assumption) rfl ?_
      refine hv_icmp_ge (tgt := 36) dX12_read_15 (by decide) (fun c_15 => absurd c_15 ((by rw [h4]; exact nI_ge (by omega) (by omega)))) (fun c_15 => ?_)
      refine hv_aload_n dX12_read_18 rfl ?_
      refine hv_getr dX12_read_19 fl_X12_17 (by first | rfl | assumption) rfl (by first | rfl | assumption) ?_
      refine hv_iload_n dX12_read_22 rfl ?_
      refine hv_aload_n dX12_read_23 rfl ?_
      refine hv_getr dX12_read_24 fl_X12_13 (by first | rfl | assumption) rfl (by first | rfl | assumption) ?_
      refine hv_iload_n dX12_read_27 rfl ?_
      refine hv_bald dX12_read_28 (by first | rfl | assumption) (j := i) rfl (by omega) (by first | decide | assumption) ?_
      refine hv_bast dX12_read_29 (by first | rfl | assumption) (j := i) rfl (by omega) (by first | decide | assumption) ?_
      refine hv_iinc dX12_read_30 rfl (nI_1 i) rfl rfl ?_
      refine hv_goto (tgt := 10) dX12_read_33 (by decide) ?_
      refine ih (i + 1) _ (by omega) (off_up o1 (by decide)) (kM_c k1 (by decide)) (by rw [hva_ne (by decide)]; exact h4) (fun j hj => ?_)
      rw [hup_eq]
      by_cases e : j = i
      · subst e; rw [pk_us, o1 65 (by decide)]; exact hb j (by omega)
      · rw [pk_un e]; exact h66 j (by omega)
  refine hv_enter pn_X12 rfl ?_
  refine hv_aload_n dX12_read_0 rfl ?_
  refine hv_aload_n dX12_read_1 rfl ?_
  refine hv_geti dX12_read_2 fl_X12_166 (by first | rfl | assumption) rfl ?_
  refine hv_puti dX12_read_5 fl_X12_172 (by first | rfl | assumption) rfl rfl rfl ?_
  refine hv_iconst (v := 0) dX12_read_8 (by decide) ?_
  refine hv_istore_n dX12_read_9 rfl rfl ?_
  exact copy n 0 _ (by omega) (off_up (fun _ _ => rfl) (by decide)) (kM_up (by decide)) (by rw [hup_eq, pk_us]; exact hn) (fun j hj => absurd hj (Nat.not_lt_zero _))
end S9l

