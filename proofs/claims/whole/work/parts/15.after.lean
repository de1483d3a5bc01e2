abbrev m_X2_after (Q : hPo) : hMe := (hrm 5, 0, 0, yX2_after, cX2_after, 5, (some (FieldType.object "HerringShares$State")), shp, none, Q)
abbrev m_X2_findBestSale (Q : hPo) : hMe := (hrm 5, 0, 0, yX2_findBestSale, cX2_findBestSale, 6, (none : Option FieldType), shp, none, Q)
abbrev m_X2_findDearest (Q : hPo) : hMe := (hrm 5, 0, 0, yX2_findDearest, cX2_findDearest, 5, (none : Option FieldType), shp, none, Q)
abbrev m_X2_leastSalting (Q : hPo) : hMe := (hrm 6, 0, 0, yX2_leastSalting, cX2_leastSalting, 9, (some FieldType.int), shp, none, Q)
abbrev m_X2_fishIfSalted (Q : hPo) : hMe := (hrm 5, 0, 0, yX2_fishIfSalted, cX2_fishIfSalted, 6, (some FieldType.int), shp, none, Q)
def fGl (t : hTw) (sd : Int32) (day : Int32) : Bool := decide ((hush (fMix (fMix sd 115) (4 * day)) 1) - (hush (fMix (fMix sd 115) (4 * day)) 1) / 100 * 100 < tO t)
theorem fGl_iff {t : hTw} {sd day : Int32} : fGl t sd day = true ↔ fIsGlut t day sd := by unfold fGl fIsGlut; simp
abbrev xDay (S : Nat) : List Nat := [28, 29, 30, 49, 50, S, S + 1, S + 3, S + 4]
theorem tEq.rf {σ : hS} {h sz : Nat} : tEq (twC σ h sz) (twC σ h sz) := ⟨rfl, fun _ _ => ⟨rfl, rfl, rfl⟩, rfl, fun _ _ _ => rfl, fun k v w hv => lvalC_ext _ _ _ hv _ _ _⟩
theorem dEq.mono {h g : Nat} {d e : hDy} (q : dEq h d e) (hg : g ≤ h) : dEq g d e := ⟨fun a ha => q.1 a (by omega), q.2⟩
/-- a salted a little more -/
def dSalt (d : hDy) (a : Nat) (s : Int32) : hDy := (dF d, dC d, upd (dS d) a (dS d a + s), dA d, dP d, dD d, dL d)
/-- the best of f 0 .. f (k - 1), and when -/
def fBest (f : Nat → Int32) (d0 : Int32) : Nat → Int32 × Int32
  | 0 => (d0, -1)
  | k + 1 => if (fBest f d0 k).2 < f k then (nI k, f k) else fBest f d0 k
def fLst (P : Nat → Bool) : Nat → Nat → Int32
  | 0, _ => -2
  | k + 1, i => if P i = true then nI i else fLst P k (i + 1)
section S15
variable {G : hGl} {σ : hS} {τ : hT} {x y : Option Nat}
theorem c_passMany_11 {h sz n : Nat} {sd : Int32} (ok : okC σ h sz) (hs5 : σ 11 5 = nI h) (hn : n < 2 ^ 31) : hCal G (m_X2_passMany (hQp (xDay 11) none (rr 38 51 x y) σ τ (fun σ' => dEq h (dyC σ' 11) (fDays (twC σ h sz) (fGl (twC σ h sz) sd) n (dyC σ 11)) ∧ σ' 11 5 = nI h))) [.ref (hgA G 21), .ref (hgA G 38), .ref (hgA G 11), .int (nI n), .int sd] shp (rr 38 51 x y) σ τ := by
  refine hv_enter pn_X2 rfl ?_
  have loop : ∀ k i (σ' : hS), i + k = n → (∀ c, c ∉ xDay 11 → σ' c = σ c) → dEq h (dyC σ' 11) (fDays (twC σ h sz) (fGl (twC σ h sz) sd) i (dyC σ 11)) → σ' 11 5 = nI h → hV G (m_X2_passMany (hQp (xDay 11) none (rr 38 51 x y) σ τ (fun σ' => dEq h (dyC σ' 11) (fDays (twC σ h sz) (fGl (twC σ h sz) sd) n (dyC σ 11)) ∧ σ' 11 5 = nI h))) 0 0 shp 3 [some (.ref (hgA G 21)), some (.ref (hgA G 38)), some (.ref (hgA G 11)), some (.int (nI n)), some (.int sd), some (.int (nI i))] [] (rr 38 51 x y) σ' τ := by
    intro k
    induction k with
    | zero =>
      intro i σ' hi hσ hd h5
      obtain rfl : i = n := by omega
      refine hv_iload dX2_passMany_3 rfl ?_
      refine hv_iload_n dX2_passMany_5 rfl ?_
      refine hv_icmp_ge (tgt := 23) dX2_passMany_6 (by decide) (fun c_6 => ?_) (fun c_6 => absurd ((nI_le (Nat.le_refl _) (by omega))) c_6)
      refine hv_vret dX2_passMany_23 rfl ?_
      exact ⟨rfl, rfl, rfl, hσ, hd, h5⟩
    | succ k ih =>
      intro i σ' hi hσ hd h5
      have et : twC σ' h sz = twC σ h sz := twC_of hσ rfl
      refine hv_iload dX2_passMany_3 rfl ?_
      refine hv_iload_n dX2_passMany_5 rfl ?_
      refine hv_icmp_ge (tgt := 23) dX2_passMany_6 (by decide) (fun c_6 => absurd c_6 ((nI_ge (by omega) (by omega)))) (fun c_6 => ?_)
      refine hv_aload_n dX2_passMany_9 rfl ?_
      refine hv_aload_n dX2_passMany_10 rfl ?_
      refine hv_aload_n dX2_passMany_11 rfl ?_
      refine hv_iload dX2_passMany_12 rfl ?_
      refine hv_cv3 (c_passOne_11 (g := fGl (twC σ h sz) sd (σ' 11 6)) (okC_of ok hσ rfl) h5 (by rw [et]; exact fGl_iff)) dX2_passMany_14 ml_X2_107 mk_X2_passOne (by first | rfl | assumption) rfl rfl rfl rfl rfl ?_
      rintro _ _ σ1 _ ⟨rfl, rfl, rfl, q1, q2, q3⟩
      refine hv_iinc dX2_passMany_17 rfl (nI_1 i) rfl rfl ?_
      refine hv_goto (tgt := 3) dX2_passMany_20 (by decide) ?_
      refine ih (i + 1) _ (by omega) (off_tr hσ q1 (by decide) (by decide)) ?_ (q3.trans h5)
      rw [fDays_s, ← hd.2.1]
      rw [et] at q2
      exact q2.trans (fDay_congr (tEq.rf (σ := σ) (h := h) (sz := sz)) hd)
  refine hv_iconst (v := 0) dX2_passMany_0 (by decide) ?_
  refine hv_istore dX2_passMany_1 rfl rfl ?_
  exact loop n 0 σ (by omega) (fun _ _ => rfl) dEq.rfl' hs5
theorem c_passMany_22 {h sz n : Nat} {sd : Int32} (ok : okC σ h sz) (hs5 : σ 22 5 = nI h) (hn : n < 2 ^ 31) : hCal G (m_X2_passMany (hQp (xDay 22) none (rr 38 51 x y) σ τ (fun σ' => dEq h (dyC σ' 22) (fDays (twC σ h sz) (fGl (twC σ h sz) sd) n (dyC σ 22)) ∧ σ' 22 5 = nI h))) [.ref (hgA G 21), .ref (hgA G 38), .ref (hgA G 22), .int (nI n), .int sd] shp (rr 38 51 x y) σ τ := by
  refine hv_enter pn_X2 rfl ?_
  have loop : ∀ k i (σ' : hS), i + k = n → (∀ c, c ∉ xDay 22 → σ' c = σ c) → dEq h (dyC σ' 22) (fDays (twC σ h sz) (fGl (twC σ h sz) sd) i (dyC σ 22)) → σ' 22 5 = nI h → hV G (m_X2_passMany (hQp (xDay 22) none (rr 38 51 x y) σ τ (fun σ' => dEq h (dyC σ' 22) (fDays (twC σ h sz) (fGl (twC σ h sz) sd) n (dyC σ 22)) ∧ σ' 22 5 = nI h))) 0 0 shp 3 [some (.ref (hgA G 21)), some (.ref (hgA G 38)), some (.ref (hgA G 22)), some (.int (nI n)), some (.int sd), some (.int (nI i))] [] (rr 38 51 x y) σ' τ := by
    intro k
    induction k with
    | zero =>
      intro i σ' hi hσ hd h5
      obtain rfl : i = n := by omega
      refine hv_iload dX2_passMany_3 rfl ?_
      refine hv_iload_n dX2_passMany_5 rfl ?_
      refine hv_icmp_ge (tgt := 23) dX2_passMany_6 (by decide) (fun c_6 => ?_) (fun c_6 => absurd ((nI_le (Nat.le_refl _) (by omega))) c_6)
      refine hv_vret dX2_passMany_23 rfl ?_
      exact ⟨rfl, rfl, rfl, hσ, hd, h5⟩
    | succ k ih =>
      intro i σ' hi hσ hd h5
      have et : twC σ' h sz = twC σ h sz := twC_of hσ rfl
      refine hv_iload dX2_passMany_3 rfl ?_
      refine hv_iload_n dX2_passMany_5 rfl ?_
      refine hv_icmp_ge (tgt := 23) dX2_passMany_6 (by decide) (fun c_6 => absurd c_6 ((nI_ge (by omega) (by omega)))) (fun c_6 => ?_)
      refine hv_aload_n dX2_passMany_9 rfl ?_
      refine hv_aload_n dX2_passMany_10 rfl ?_
      refine hv_aload_n dX2_passMany_11 rfl ?_
      refine hv_iload dX2_passMany_12 rfl ?_
      refine hv_cv3 (c_passOne_22 (g := fGl (twC σ h sz) sd (σ' 22 6)) (okC_of ok hσ rfl) h5 (by rw [et]; exact fGl_iff)) dX2_passMany_14 ml_X2_107 mk_X2_passOne (by first | rfl | assumption) rfl rfl rfl rfl rfl ?_
      rintro _ _ σ1 _ ⟨rfl, rfl, rfl, q1, q2, q3⟩
      refine hv_iinc dX2_passMany_17 rfl (nI_1 i) rfl rfl ?_
      refine hv_goto (tgt := 3) dX2_passMany_20 (by decide) ?_
      refine ih (i + 1) _ (by omega) (off_tr hσ q1 (by decide) (by decide)) ?_ (q3.trans h5)
      rw [fDays_s, ← hd.2.1]
      rw [et] at q2
      exact q2.trans (fDay_congr (tEq.rf (σ := σ) (h := h) (sz := sz)) hd)
  refine hv_iconst (v := 0) dX2_passMany_0 (by decide) ?_
  refine hv_istore dX2_passMany_1 rfl rfl ?_
  exact loop n 0 σ (by omega) (fun _ _ => rfl) dEq.rfl' hs5
theorem c_copy : hCal G (m_X6_copy (hQp [22, 23, 24, 25, 26, 27] none (rr 38 51 x y) σ τ (fun σ' => dEq 7 (dyC σ' 22) (dyC σ 11) ∧ σ' 22 5 = σ 11 5))) [.ref (hgA G 22), .ref (hgA G 11)] shp (rr 38 51 x y) σ τ := by
  refine hv_enter pn_X6 rfl ?_
  refine hv_aload_n dX6_copy_0 rfl ?_
  refine hv_getr dX6_copy_1 fl_X6_9 (by first | rfl | assumption) rfl (by first | rfl | assumption) ?_
  refine hv_iconst (v := 0) dX6_copy_4 (by decide) ?_
  refine hv_aload_n dX6_copy_5 rfl ?_
  refine hv_getr dX6_copy_6 fl_X6_9 (by first | rfl | assumption) rfl (by first | rfl | assumption) ?_
  refine hv_iconst (v := 0) dX6_copy_9 (by decide) ?_
  refine hv_bipush (v := 7) dX6_copy_10 (by decide) ?_
  refine hv_copy dX6_copy_12 ml_X6_43 (by first | rfl | assumption) (by first | rfl | assumption) rfl rfl rfl (by decide) (by decide) (by decide) rfl rfl hacp ?_
  refine hv_aload_n dX6_copy_15 rfl ?_
  refine hv_getr dX6_copy_16 fl_X6_15 (by first | rfl | assumption) rfl (by first | rfl | assumption) ?_
  refine hv_iconst (v := 0) dX6_copy_19 (by decide) ?_
  refine hv_aload_n dX6_copy_20 rfl ?_
  refine hv_getr dX6_copy_21 fl_X6_15 (by first | rfl | assumption) rfl (by first | rfl | assumption) ?_
  refine hv_iconst (v := 0) dX6_copy_24 (by decide) ?_
  refine hv_bipush (v := 7) dX6_copy_25 (by decide) ?_
  refine hv_copy dX6_copy_27 ml_X6_43 (by first | rfl | assumption) (by first | rfl | assumption) rfl rfl rfl (by decide) (by decide) (by decide) rfl rfl hacp ?_
  refine hv_aload_n dX6_copy_30 rfl ?_
  refine hv_getr dX6_copy_31 fl_X6_18 (by first | rfl | assumption) rfl (by first | rfl | assumption) ?_
  refine hv_iconst (v := 0) dX6_copy_34 (by decide) ?_
  refine hv_aload_n dX6_copy_35 rfl ?_
  refine hv_getr dX6_copy_36 fl_X6_18 (by first | rfl | assumption) rfl (by first | rfl | assumption) ?_
  refine hv_iconst (v := 0) dX6_copy_39 (by decide) ?_
  refine hv_bipush (v := 7) dX6_copy_40 (by decide) ?_
  refine hv_copy dX6_copy_42 ml_X6_43 (by first | rfl | assumption) (by first | rfl | assumption) rfl rfl rfl (by decide) (by decide) (by decide) rfl rfl hacp ?_
  refine hv_aload_n dX6_copy_45 rfl ?_
  refine hv_getr dX6_copy_46 fl_X6_21 (by first | rfl | assumption) rfl (by first | rfl | assumption) ?_
  refine hv_iconst (v := 0) dX6_copy_49 (by decide) ?_
  refine hv_aload_n dX6_copy_50 rfl ?_
  refine hv_getr dX6_copy_51 fl_X6_21 (by first | rfl | assumption) rfl (by first | rfl | assumption) ?_
  refine hv_iconst (v := 0) dX6_copy_54 (by decide) ?_
  refine hv_bipush (v := 7) dX6_copy_55 (by decide) ?_
  refine hv_copy dX6_copy_57 ml_X6_43 (by first | rfl | assumption) (by first | rfl | assumption) rfl rfl rfl (by decide) (by decide) (by decide) rfl rfl hacp ?_
  refine hv_aload_n dX6_copy_60 rfl ?_
  refine hv_getr dX6_copy_61 fl_X6_24 (by first | rfl | assumption) rfl (by first | rfl | assumption) ?_
  refine hv_iconst (v := 0) dX6_copy_64 (by decide) ?_
  refine hv_aload_n dX6_copy_65 rfl ?_
  refine hv_getr dX6_copy_66 fl_X6_24 (by first | rfl | assumption) rfl (by first | rfl | assumption) ?_
  refine hv_iconst (v := 0) dX6_copy_69 (by decide) ?_
  refine hv_bipush (v := 7) dX6_copy_70 (by decide) ?_
  refine hv_copy dX6_copy_72 ml_X6_43 (by first | rfl | assumption) (by first | rfl | assumption) rfl rfl rfl (by decide) (by decide) (by decide) rfl rfl hacp ?_
  refine hv_aload_n dX6_copy_75 rfl ?_
  refine hv_aload_n dX6_copy_76 rfl ?_
  refine hv_geti dX6_copy_77 fl_X6_33 (by first | rfl | assumption) rfl ?_
  refine hv_puti dX6_copy_80 fl_X6_33 (by first | rfl | assumption) rfl rfl rfl ?_
  refine hv_aload_n dX6_copy_83 rfl ?_
  refine hv_aload_n dX6_copy_84 rfl ?_
  refine hv_geti dX6_copy_85 fl_X6_34 (by first | rfl | assumption) rfl ?_
  refine hv_puti dX6_copy_88 fl_X6_34 (by first | rfl | assumption) rfl rfl rfl ?_
  refine hv_aload_n dX6_copy_91 rfl ?_
  refine hv_aload_n dX6_copy_92 rfl ?_
  refine hv_geti dX6_copy_93 fl_X6_40 (by first | rfl | assumption) rfl ?_
  refine hv_puti dX6_copy_96 fl_X6_40 (by first | rfl | assumption) rfl rfl rfl ?_
  refine hv_vret dX6_copy_99 rfl ?_
  refine ⟨rfl, rfl, rfl, fun c hc => ?_, ⟨fun a ha => ?_, ?_, ?_⟩, ?_⟩
  · simp only [List.mem_cons, List.not_mem_nil, or_false, not_or] at hc
    obtain ⟨e1, e2, e3, e4, e5, e6⟩ := hc
    simp only [va_up, e1, e2, e3, e4, e5, e6, if_false]
  · simp [dyC, dF, dC, dS, dA, dP, va_up, va_cpy, ha]
  · simp [dyC, dD, va_up, upd]
  · simp [dyC, dL, va_up, upd]
  · simp [va_up, upd]
abbrev xAft : List Nat := [22, 23, 24, 25, 26, 27, 28, 29, 30, 49, 50]
theorem c_after {h sz n : Nat} {sd : Int32} (ok : okC σ h sz) (hs5 : σ 11 5 = nI h) (hn : n < 2 ^ 31) : hCal G (m_X2_after (hQp xAft (some (.ref (hgA G 22))) (rr 38 51 x y) σ τ (fun σ' => dEq h (dyC σ' 22) (fDays (twC σ h sz) (fGl (twC σ h sz) sd) n (dyC σ 11)) ∧ σ' 22 5 = nI h))) [.ref (hgA G 21), .ref (hgA G 38), .ref (hgA G 11), .int (nI n), .int sd] shp (rr 38 51 x y) σ τ := by
  have k2 := ok.2.1
  refine hv_enter pn_X2 rfl ?_
  refine hv_aload_n dX2_after_0 rfl ?_
  refine hv_getr dX2_after_1 fl_X2_12 (by first | rfl | assumption) rfl (by first | rfl | assumption) ?_
  refine hv_aload_n dX2_after_4 rfl ?_
  refine hv_cv1 (c_copy) dX2_after_5 ml_X2_132 mk_X6_copy (by first | rfl | assumption) rfl rfl rfl rfl rfl ?_
  rintro _ _ σ1 _ ⟨rfl, rfl, rfl, q1, q2, q3⟩
  refine hv_aload_n dX2_after_8 rfl ?_
  refine hv_aload_n dX2_after_9 rfl ?_
  refine hv_aload_n dX2_after_10 rfl ?_
  refine hv_getr dX2_after_11 fl_X2_12 (by first | rfl | assumption) rfl (by first | rfl | assumption) ?_
  refine hv_iload_n dX2_after_14 rfl ?_
  refine hv_iload dX2_after_15 rfl ?_
  refine hv_cv4 (c_passMany_22 (okC_of ok q1 rfl) (q3.trans hs5) hn) dX2_after_17 ml_X2_136 mk_X2_passMany (by first | rfl | assumption) rfl rfl rfl rfl rfl ?_
  rintro _ _ σ2 _ ⟨rfl, rfl, rfl, q4, q5, q6⟩
  refine hv_aload_n dX2_after_20 rfl ?_
  refine hv_getr dX2_after_21 fl_X2_12 (by first | rfl | assumption) rfl (by first | rfl | assumption) ?_
  refine hv_aret dX2_after_24 rfl (by first | exact Or.inl ⟨_, rfl⟩ | exact Or.inr ⟨_, rfl⟩) ?_
  refine ⟨rfl, rfl, rfl, off_tr q1 q4 (by decide) (by decide), ?_, q6⟩
  rw [twC_of q1 rfl] at q5
  exact q5.trans (fDays_congr (t := twC σ h sz) (tEq.rf (σ := σ) (h := h) (sz := sz)) n (q2.mono k2))
theorem c_fishIfSalted {h sz n a : Nat} {s : Int32} (ok : okC σ h sz) (hs5 : σ 11 5 = nI h) (hn : n < 2 ^ 31) (ha : a < h) : hCal G (m_X2_fishIfSalted (hQx xAft (some (.int (dF (fDays (twC σ h sz) (fGl (twC σ h sz) (σ 38 12)) n (dSalt (dyC σ 11) a s)) a))) (rr 38 51 x y) σ τ)) [.ref (hgA G 21), .ref (hgA G 38), .ref (hgA G 11), .int (nI a), .int (nI n), .int s] shp (rr 38 51 x y) σ τ := by
  have k2 := ok.2.1
  refine hv_enter pn_X2 rfl ?_
  refine hv_aload_n dX2_fishIfSalted_0 rfl ?_
  refine hv_getr dX2_fishIfSalted_1 fl_X2_12 (by first | rfl | assumption) rfl (by first | rfl | assumption) ?_
  refine hv_aload_n dX2_fishIfSalted_4 rfl ?_
  refine hv_cv1 (c_copy) dX2_fishIfSalted_5 ml_X2_132 mk_X6_copy (by first | rfl | assumption) rfl rfl rfl rfl rfl ?_
  rintro _ _ σ1 _ ⟨rfl, rfl, rfl, q1, q2, q3⟩
  obtain ⟨σ3, e3⟩ : ∃ σ3, va_up σ1 25 (upd (σ1 25) a (σ1 25 a + s)) = σ3 := ⟨_, rfl⟩
  have q7 : ∀ c, c ∉ [22, 23, 24, 25, 26, 27] → σ3 c = σ c := by rw [← e3]; exact off_up q1 (by decide)
  refine hv_aload_n dX2_fishIfSalted_8 rfl ?_
  refine hv_getr dX2_fishIfSalted_9 fl_X2_12 (by first | rfl | assumption) rfl (by first | rfl | assumption) ?_
  refine hv_getr dX2_fishIfSalted_12 fl_X2_94 (by first | rfl | assumption) rfl (by first | rfl | assumption) ?_
  refine hv_iload_n dX2_fishIfSalted_15 rfl ?_
  refine hv_dup2 dX2_fishIfSalted_16 rfl rfl ?_
  refine hv_iald dX2_fishIfSalted_17 (by first | rfl | assumption) rfl (by first | assumption | omega) (by first | decide | assumption) ?_
  refine hv_iload dX2_fishIfSalted_18 rfl ?_
  refine hv_iadd dX2_fishIfSalted_20 ?_
  refine hv_iast dX2_fishIfSalted_21 (by first | rfl | assumption) rfl (by first | assumption | omega) (by first | decide | assumption) ?_
  rw [e3]
  refine hv_aload_n dX2_fishIfSalted_22 rfl ?_
  refine hv_aload_n dX2_fishIfSalted_23 rfl ?_
  refine hv_aload_n dX2_fishIfSalted_24 rfl ?_
  refine hv_getr dX2_fishIfSalted_25 fl_X2_12 (by first | rfl | assumption) rfl (by first | rfl | assumption) ?_
  refine hv_iload dX2_fishIfSalted_28 rfl ?_
  refine hv_aload_n dX2_fishIfSalted_30 rfl ?_
  refine hv_geti dX2_fishIfSalted_31 fl_X2_142 (by first | rfl | assumption) rfl ?_
  refine hv_cv4 (c_passMany_22 (okC_of ok q7 rfl) (by rw [← e3, hva_ne (by decide)]; exact q3.trans hs5) hn) dX2_fishIfSalted_34 ml_X2_136 mk_X2_passMany (by first | rfl | assumption) rfl rfl rfl rfl rfl ?_
  rintro _ _ σ2 _ ⟨rfl, rfl, rfl, q4, q5, q6⟩
  refine hv_aload_n dX2_fishIfSalted_37 rfl ?_
  refine hv_getr dX2_fishIfSalted_38 fl_X2_12 (by first | rfl | assumption) rfl (by first | rfl | assumption) ?_
  refine hv_getr dX2_fishIfSalted_41 fl_X2_68 (by first | rfl | assumption) rfl (by first | rfl | assumption) ?_
  refine hv_iload_n dX2_fishIfSalted_44 rfl ?_
  refine hv_iald dX2_fishIfSalted_45 (by first | rfl | assumption) rfl (by first | assumption | omega) (by first | decide | assumption) ?_
  refine hv_iret dX2_fishIfSalted_46 rfl ?_
  refine ⟨?_, rfl, rfl, off_tr q7 q4 (by decide) (by decide)⟩
  rw [twC_of q7 rfl, q7 38 (by decide)] at q5
  have q8 : dEq h (dyC σ3 22) (dSalt (dyC σ 11) a s) := by
    have fne : ∀ c, c ≠ 25 → σ3 c = σ1 c := fun c hc => by rw [← e3, hva_ne hc]
    have f25 : σ3 25 = upd (σ1 25) a (σ1 25 a + s) := by rw [← e3, hup_eq]
    refine ⟨fun b hb => ?_, (congrFun (fne 22 (by decide)) 6).trans q2.2.1, (congrFun (fne 22 (by decide)) 7).trans q2.2.2⟩
    obtain ⟨p1, p2, p3, p4, p5⟩ := q2.1 b (by omega)
    refine ⟨(congrFun (fne 23 (by decide)) b).trans p1, (congrFun (fne 24 (by decide)) b).trans p2, ?_, (congrFun (fne 26 (by decide)) b).trans p4, (congrFun (fne 27 (by decide)) b).trans p5⟩
    refine Eq.trans (show dS (dyC σ3 22) b = _ from congrFun f25 b) ?_
    show upd (σ1 25) a (σ1 25 a + s) b = upd (σ 14) a (σ 14 a + s) b
    by_cases e : b = a
    · subst e
      rw [pk_us, pk_us, show σ1 25 b = σ 14 b from p3]
    · rw [pk_un e, pk_un e]; exact p3
  have q9 := q5.trans (fDays_congr (t := twC σ h sz) (tEq.rf (σ := σ) (h := h) (sz := sz)) n q8)
  rw [← (q9.1 a ha).1]
  rfl
theorem c_leastSalting {h sz n a f : Nat} (ok : okC σ h sz) (hs5 : σ 11 5 = nI h) (hn : n < 2 ^ 31) (ha : a < h) (hf : σ 12 a - σ 14 a = nI f) (hfb : f < 2 ^ 31) : hCal G (m_X2_leastSalting (hQx xAft (some (.int (fLst (fun i => decide (dF (fDays (twC σ h sz) (fGl (twC σ h sz) (σ 38 12)) n (dSalt (dyC σ 11) a (nI f))) a ≤ dF (fDays (twC σ h sz) (fGl (twC σ h sz) (σ 38 12)) n (dSalt (dyC σ 11) a (nI i))) a)) (min f 99 + 1) 0))) (rr 38 51 x y) σ τ)) [.ref (hgA G 21), .ref (hgA G 38), .ref (hgA G 11), .int (nI a), .int (nI n)] shp (rr 38 51 x y) σ τ := by
  have k2 := ok.2.1
  refine hv_enter pn_X2 rfl ?_
  generalize hV0 : (fun s : Int32 => dF (fDays (twC σ h sz) (fGl (twC σ h sz) (σ 38 12)) n (dSalt (dyC σ 11) a s)) a) = V
  have hVs : ∀ s, dF (fDays (twC σ h sz) (fGl (twC σ h sz) (σ 38 12)) n (dSalt (dyC σ 11) a s)) a = V s := fun s => congrFun hV0 s
  simp only [hVs]
  have call : ∀ {s : Int32} {σ' : hS}, (∀ c, c ∉ xAft → σ' c = σ c) → hCal G (m_X2_fishIfSalted (hQx xAft (some (.int (V s))) (rr 38 51 x y) σ' τ)) [.ref (hgA G 21), .ref (hgA G 38), .ref (hgA G 11), .int (nI a), .int (nI n), .int s] shp (rr 38 51 x y) σ' τ := by
    intro s σ' q
    have := c_fishIfSalted (G := G) (σ := σ') (τ := τ) (x := x) (y := y) (s := s) (n := n) (okC_of ok q rfl) (by rw [q 11 (by decide)]; exact hs5) hn ha
    rw [twC_of q rfl, dyC_of q rfl, q 38 (by decide), hVs] at this
    exact this
  have loop : ∀ k i (σ' : hS) (res : Int32), i + k = min f 99 + 1 → fLst (fun i => decide (V (nI f) ≤ V (nI i))) k i = res → (∀ c, c ∉ xAft → σ' c = σ c) → hV G (m_X2_leastSalting (hQx xAft (some (.int res)) (rr 38 51 x y) σ τ)) 0 0 shp 32 [some (.ref (hgA G 21)), some (.ref (hgA G 38)), some (.ref (hgA G 11)), some (.int (nI a)), some (.int (nI n)), some (.int (nI f)), some (.int (V (nI f))), some (.int (nI (min f 99))), some (.int (nI i))] [] (rr 38 51 x y) σ' τ := by
    intro k
    induction k with
    | zero =>
      intro i σ' res hi hr hσ
      refine hv_iload dX2_leastSalting_32 rfl ?_
      refine hv_iload dX2_leastSalting_34 rfl ?_
      refine hv_icmp_gt (tgt := 64) dX2_leastSalting_36 (by decide) (fun c_36 => ?_) (fun c_36 => absurd ((nI_lt (by omega) (by omega))) c_36)
      refine hv_bipush (v := -2) dX2_leastSalting_64 (by decide) ?_
      refine hv_iret dX2_leastSalting_66 rfl ?_
      exact ⟨congrArg (fun z => some (Value.int z)) hr.symm, rfl, rfl, hσ⟩
    | succ k ih =>
      intro i σ' res hi hr hσ
      rw [fLst] at hr
      refine hv_iload dX2_leastSalting_32 rfl ?_
      refine hv_iload dX2_leastSalting_34 rfl ?_
      refine hv_icmp_gt (tgt := 64) dX2_leastSalting_36 (by decide) (fun c_36 => absurd c_36 ((nI_nlt (by omega) (by omega)))) (fun c_36 => ?_)
      refine hv_aload_n dX2_leastSalting_39 rfl ?_
      refine hv_aload_n dX2_leastSalting_40 rfl ?_
      refine hv_aload_n dX2_leastSalting_41 rfl ?_
      refine hv_iload_n dX2_leastSalting_42 rfl ?_
      refine hv_iload dX2_leastSalting_43 rfl ?_
      refine hv_iload dX2_leastSalting_45 rfl ?_
      refine hv_cv5 (call hσ) dX2_leastSalting_47 ml_X2_155 mk_X2_fishIfSalted (by first | rfl | assumption) rfl rfl rfl rfl rfl ?_
      rintro _ _ σ1 _ ⟨rfl, rfl, rfl, q1⟩
      have q2 : ∀ c, c ∉ xAft → σ1 c = σ c := off_tr hσ q1 (by decide) (by decide)
      refine hv_iload dX2_leastSalting_50 rfl ?_
      refine hv_icmp_lt (tgt := 58) dX2_leastSalting_52 (by decide) (fun c_52 => ?_) (fun c_52 => ?_)
      · rw [if_neg (by simpa using c_52)] at hr
        refine hv_iinc dX2_leastSalting_58 rfl (nI_1 i) rfl rfl ?_
        refine hv_goto (tgt := 32) dX2_leastSalting_61 (by decide) ?_
        exact ih (i + 1) σ1 res (by omega) hr q2
      · rw [if_pos (by simpa using Int32.not_lt.mp c_52)] at hr
        refine hv_iload dX2_leastSalting_55 rfl ?_
        refine hv_iret dX2_leastSalting_57 rfl ?_
        exact ⟨congrArg (fun z => some (Value.int z)) hr.symm, rfl, rfl, q2⟩
  refine hv_aload_n dX2_leastSalting_0 rfl ?_
  refine hv_iload_n dX2_leastSalting_1 rfl ?_
  refine hv_cv1 (c_fresh_11 (by omega)) dX2_leastSalting_2 ml_X2_75 mk_X6_fresh (by first | rfl | assumption) rfl rfl rfl rfl rfl ?_
  rintro _ _ _ _ ⟨rfl, rfl, rfl, rfl⟩
  rw [hf]
  refine hv_istore dX2_leastSalting_5 rfl rfl ?_
  refine hv_aload_n dX2_leastSalting_7 rfl ?_
  refine hv_aload_n dX2_leastSalting_8 rfl ?_
  refine hv_aload_n dX2_leastSalting_9 rfl ?_
  refine hv_iload_n dX2_leastSalting_10 rfl ?_
  refine hv_iload dX2_leastSalting_11 rfl ?_
  refine hv_iload dX2_leastSalting_13 rfl ?_
  refine hv_cv5 (call (fun _ _ => rfl)) dX2_leastSalting_15 ml_X2_155 mk_X2_fishIfSalted (by first | rfl | assumption) rfl rfl rfl rfl rfl ?_
  rintro _ _ σ1 _ ⟨rfl, rfl, rfl, q1⟩
  refine hv_istore dX2_leastSalting_18 rfl rfl ?_
  refine hv_iload dX2_leastSalting_20 rfl ?_
  refine hv_bipush (v := 99) dX2_leastSalting_22 (by decide) ?_
  refine hv_min dX2_leastSalting_24 ml_X2_28 rfl rfl rfl rfl ?_
  refine hv_str (st' := [.int (nI (min f 99))]) ?_ ?_
  · congr 2
    by_cases e : f ≤ 99
    · rw [if_neg (show ¬ nI f > 99 from nI_nlt (a := 99) (b := f) e (by decide)), Nat.min_eq_left e]
    · rw [if_pos (show nI f > 99 from nI_lt (a := 99) (by omega) (by omega)), Nat.min_eq_right (by omega)]; rfl
  refine hv_istore dX2_leastSalting_27 rfl rfl ?_
  refine hv_iconst (v := 0) dX2_leastSalting_29 (by decide) ?_
  refine hv_istore dX2_leastSalting_30 rfl rfl ?_
  exact loop (min f 99 + 1) 0 σ1 _ (by omega) rfl q1
theorem fDays_add (t : hTw) (g : Int32 → Bool) (m : Nat) : ∀ (k : Nat) (d : hDy), fDays t g m (fDays t g k d) = fDays t g (k + m) d
  | 0, d => by rw [Nat.zero_add]; rfl
  | k + 1, d => by rw [Nat.add_right_comm, fDays, fDays, fDays_add t g m k]
theorem c_weigh {d v : Int32} {r : hR} : hCal G (m_X2_weigh (hQp [21] none r σ τ (fun σ' => (σ' 21 4, σ' 21 5) = if σ 21 5 < v then (d, v) else (σ 21 4, σ 21 5)))) [.ref (hgA G 21), .int d, .int v] shp r σ τ := by
  refine hv_enter pn_X2 rfl ?_
  refine hv_iload_n dX2_weigh_0 rfl ?_
  refine hv_aload_n dX2_weigh_1 rfl ?_
  refine hv_geti dX2_weigh_2 fl_X2_139 (by first | rfl | assumption) rfl ?_
  refine hv_icmp_le (tgt := 18) dX2_weigh_5 (by decide) (fun c_5 => ?_) (fun c_5 => ?_)
  · refine hv_vret dX2_weigh_18 rfl ?_
    first
      | (refine ⟨rfl, rfl, rfl, fun c hc => by rw [hva_ne (by simpa using hc), hva_ne (by simpa using hc)], ?_⟩; rw [if_pos (Int32.not_le.mp c_5)]; simp [va_up, upd])
      | (refine ⟨rfl, rfl, rfl, fun c hc => rfl, ?_⟩; rw [if_neg (Int32.not_lt.mpr c_5)])
  · refine hv_aload_n dX2_weigh_8 rfl ?_
    refine hv_iload_n dX2_weigh_9 rfl ?_
    refine hv_puti dX2_weigh_10 fl_X2_139 (by first | rfl | assumption) rfl rfl rfl ?_
    refine hv_aload_n dX2_weigh_13 rfl ?_
    refine hv_iload_n dX2_weigh_14 rfl ?_
    refine hv_puti dX2_weigh_15 fl_X2_152 (by first | rfl | assumption) rfl rfl rfl ?_
    refine hv_vret dX2_weigh_18 rfl ?_
    first
      | (refine ⟨rfl, rfl, rfl, fun c hc => by rw [hva_ne (by simpa using hc), hva_ne (by simpa using hc)], ?_⟩; rw [if_pos (Int32.not_le.mp c_5)]; simp [va_up, upd])
      | (refine ⟨rfl, rfl, rfl, fun c hc => rfl, ?_⟩; rw [if_neg (Int32.not_lt.mpr c_5)])
abbrev xBst : List Nat := [21, 22, 23, 24, 25, 26, 27, 28, 29, 30, 49, 50]
/-- how much the FISH of a bring on a day from now on -/
def fSale (t : hTw) (sd : Int32) (d : hDy) (a k : Nat) : Int32 := dF (fDays t (fGl t sd) k d) a * fPrice t (fDays t (fGl t sd) k d)
def fDear (t : hTw) (sd : Int32) (d : hDy) (k : Nat) : Int32 := fPrice t (fDays t (fGl t sd) k d)
/-- before a day is weighed -/
def pBst (σ : hS) (h sz : Nat) (f : Nat → Int32) (k i : Nat) (σ' : hS) : Prop := (∀ c, c ∉ xBst → σ' c = σ c) ∧ dEq h (dyC σ' 22) (fDays (twC σ h sz) (fGl (twC σ h sz) (σ 38 12)) k (dyC σ 11)) ∧ σ' 22 5 = nI h ∧ (σ' 21 4, σ' 21 5) = fBest f (σ 21 4) i
theorem c_findBestSale {h sz n a : Nat} {Q : hPo} (ok : okC σ h sz) (hs5 : σ 11 5 = nI h) (hn : n ≤ 24) (ha : a < h) (hQ : ∀ σ' : hS, (∀ c, c ∉ xBst → σ' c = σ c) → (σ' 21 4, σ' 21 5) = fBest (fSale (twC σ h sz) (σ 38 12) (dyC σ 11) a) (σ 21 4) (n + 1) → Q none (rr 38 51 x y) σ' τ) : hCal G (m_X2_findBestSale Q) [.ref (hgA G 21), .ref (hgA G 38), .ref (hgA G 11), .int (nI a), .int (nI n)] shp (rr 38 51 x y) σ τ := by
  have k2 := ok.2.1
  refine hv_enter pn_X2 rfl ?_
  have loop : ∀ k i (σ' : hS), i + k = n + 1 → pBst σ h sz (fSale (twC σ h sz) (σ 38 12) (dyC σ 11) a) (i - 1) i σ' → hV G (m_X2_findBestSale Q) 0 0 shp 16 [some (.ref (hgA G 21)), some (.ref (hgA G 38)), some (.ref (hgA G 11)), some (.int (nI a)), some (.int (nI n)), some (.int (nI i))] [] (rr 38 51 x y) σ' τ := by
    intro k
    induction k with
    | zero =>
      intro i σ' hi hp
      obtain rfl : i = n + 1 := by omega
      refine hv_iload dX2_findBestSale_16 rfl ?_
      refine hv_iload dX2_findBestSale_18 rfl ?_
      refine hv_icmp_gt (tgt := 77) dX2_findBestSale_20 (by decide) (fun c_20 => ?_) (fun c_20 => absurd ((nI_lt (by omega) (by omega))) c_20)
      refine hv_vret dX2_findBestSale_77 rfl ?_
      exact hQ σ' hp.1 hp.2.2.2
    | succ k ih =>
      intro i σ' hi hp
      obtain ⟨hσ, hd, h5, hb⟩ := hp
      have et : twC σ' h sz = twC σ h sz := twC_of hσ rfl
      refine hv_iload dX2_findBestSale_16 rfl ?_
      refine hv_iload dX2_findBestSale_18 rfl ?_
      refine hv_icmp_gt (tgt := 77) dX2_findBestSale_20 (by decide) (fun c_20 => absurd c_20 ((nI_nlt (by omega) (by omega)))) (fun c_20 => ?_)
      refine hv_aload_n dX2_findBestSale_23 rfl ?_
      refine hv_aload_n dX2_findBestSale_24 rfl ?_
      refine hv_aload_n dX2_findBestSale_25 rfl ?_
      refine hv_getr dX2_findBestSale_26 fl_X2_12 (by first | rfl | assumption) rfl (by first | rfl | assumption) ?_
      refine hv_iload dX2_findBestSale_29 rfl ?_
      refine hv_if_ne (tgt := 38) dX2_findBestSale_31 (by decide) (fun c_31 => ?_) (fun c_31 => ?_)
      · have hm : (1 : Int32) = nI (if i = 0 then 0 else 1) := by
          by_cases e : i = 0
          · exact absurd (by rw [e]; rfl) c_31
          · rw [if_neg e]; rfl
        refine hv_iconst (v := 1) dX2_findBestSale_38 (by decide) ?_
        refine hv_str (st' := .int (nI (if i = 0 then 0 else 1)) :: [.ref (hgA G 22), .ref (hgA G 38), .ref (hgA G 21)]) (by rw [← hm]) ?_
        refine hv_aload_n dX2_findBestSale_39 rfl ?_
        refine hv_geti dX2_findBestSale_40 fl_X2_142 (by first | rfl | assumption) rfl ?_
        refine hv_cv4 (c_passMany_22 (okC_of ok hσ rfl) h5 (by split <;> decide)) dX2_findBestSale_43 ml_X2_136 mk_X2_passMany (by first | rfl | assumption) rfl rfl rfl rfl rfl ?_
        rintro _ _ σ1 _ ⟨rfl, rfl, rfl, q1, q2, q3⟩
        have q4 : ∀ c, c ∉ xBst → σ1 c = σ c := off_tr hσ q1 (by decide) (by decide)
        have q7 : dEq h (dyC σ1 22) (fDays (twC σ h sz) (fGl (twC σ h sz) (σ 38 12)) i (dyC σ 11)) := by
          rw [et, hσ 38 (by decide)] at q2
          have q := q2.trans (fDays_congr (t := twC σ h sz) (tEq.rf (σ := σ) (h := h) (sz := sz)) _ hd)
          rw [fDays_add] at q
          by_cases e : i = 0
          · subst e; exact q
          · rw [if_neg e, Nat.sub_add_cancel (by omega)] at q; exact q
        refine hv_aload_n dX2_findBestSale_46 rfl ?_
        refine hv_iload dX2_findBestSale_47 rfl ?_
        refine hv_aload_n dX2_findBestSale_49 rfl ?_
        refine hv_getr dX2_findBestSale_50 fl_X2_12 (by first | rfl | assumption) rfl (by first | rfl | assumption) ?_
        refine hv_getr dX2_findBestSale_53 fl_X2_68 (by first | rfl | assumption) rfl (by first | rfl | assumption) ?_
        refine hv_iload_n dX2_findBestSale_56 rfl ?_
        refine hv_iald dX2_findBestSale_57 (by first | rfl | assumption) rfl (by first | assumption | omega) (by first | decide | assumption) ?_
        refine hv_aload_n dX2_findBestSale_58 rfl ?_
        refine hv_aload_n dX2_findBestSale_59 rfl ?_
        refine hv_aload_n dX2_findBestSale_60 rfl ?_
        refine hv_getr dX2_findBestSale_61 fl_X2_12 (by first | rfl | assumption) rfl (by first | rfl | assumption) ?_
        refine hv_cv2 (c_price_22 (okC_of ok q4 rfl) q3) dX2_findBestSale_64 ml_X2_145 mk_X2_price (by first | rfl | assumption) rfl rfl rfl rfl rfl ?_
        rintro _ _ σ2 _ ⟨rfl, rfl, rfl, q5⟩
        rw [twC_of q4 rfl, fPrice_congr (tEq.rf (σ := σ) (h := h) (sz := sz)) (show dEq (tH (twC σ h sz)) _ _ from q7)]
        have q6 : ∀ c, c ∉ xBst → σ2 c = σ c := off_tr q4 q5 (by decide) (by decide)
        have e21 : σ2 21 = σ' 21 := by rw [q5 21 (by decide), q1 21 (by decide)]
        refine hv_imul dX2_findBestSale_67 ?_
        refine hv_cv2 (c_weigh) dX2_findBestSale_68 ml_X2_149 mk_X2_weigh (by first | rfl | assumption) rfl rfl rfl rfl rfl ?_
        rintro _ _ σ3 _ ⟨rfl, rfl, rfl, q8, q9⟩
        refine hv_iinc dX2_findBestSale_71 rfl (nI_1 i) rfl rfl ?_
        refine hv_goto (tgt := 16) dX2_findBestSale_74 (by decide) ?_
        refine ih (i + 1) σ3 (by omega) ⟨off_tr q6 q8 (by decide) (by decide), ?_, ?_, ?_⟩
        · rw [dyC_of q8 rfl, dyC_of q5 rfl]; exact q7
        · rw [q8 22 (by decide), q5 22 (by decide)]; exact q3
        · rw [q9, e21]
          have hb1 := congrArg Prod.fst hb
          have hb2 := congrArg Prod.snd hb
          dsimp only at hb1 hb2
          rw [hb1, hb2, fBest]
          rw [show σ1 23 a = _ from (q7.1 a ha).1]; rfl
      · have hm : (0 : Int32) = nI (if i = 0 then 0 else 1) := by
          by_cases e : i = 0
          · rw [if_pos e]; rfl
          · exact absurd c_31 (nI_ne0 (by omega) (by omega))
        refine hv_iconst (v := 0) dX2_findBestSale_34 (by decide) ?_
        refine hv_goto (tgt := 39) dX2_findBestSale_35 (by decide) ?_
        refine hv_str (st' := .int (nI (if i = 0 then 0 else 1)) :: [.ref (hgA G 22), .ref (hgA G 38), .ref (hgA G 21)]) (by rw [← hm]) ?_
        refine hv_aload_n dX2_findBestSale_39 rfl ?_
        refine hv_geti dX2_findBestSale_40 fl_X2_142 (by first | rfl | assumption) rfl ?_
        refine hv_cv4 (c_passMany_22 (okC_of ok hσ rfl) h5 (by split <;> decide)) dX2_findBestSale_43 ml_X2_136 mk_X2_passMany (by first | rfl | assumption) rfl rfl rfl rfl rfl ?_
        rintro _ _ σ1 _ ⟨rfl, rfl, rfl, q1, q2, q3⟩
        have q4 : ∀ c, c ∉ xBst → σ1 c = σ c := off_tr hσ q1 (by decide) (by decide)
        have q7 : dEq h (dyC σ1 22) (fDays (twC σ h sz) (fGl (twC σ h sz) (σ 38 12)) i (dyC σ 11)) := by
          rw [et, hσ 38 (by decide)] at q2
          have q := q2.trans (fDays_congr (t := twC σ h sz) (tEq.rf (σ := σ) (h := h) (sz := sz)) _ hd)
          rw [fDays_add] at q
          by_cases e : i = 0
          · subst e; exact q
          · rw [if_neg e, Nat.sub_add_cancel (by omega)] at q; exact q
        refine hv_aload_n dX2_findBestSale_46 rfl ?_
        refine hv_iload dX2_findBestSale_47 rfl ?_
        refine hv_aload_n dX2_findBestSale_49 rfl ?_
        refine hv_getr dX2_findBestSale_50 fl_X2_12 (by first | rfl | assumption) rfl (by first | rfl | assumption) ?_
        refine hv_getr dX2_findBestSale_53 fl_X2_68 (by first | rfl | assumption) rfl (by first | rfl | assumption) ?_
        refine hv_iload_n dX2_findBestSale_56 rfl ?_
        refine hv_iald dX2_findBestSale_57 (by first | rfl | assumption) rfl (by first | assumption | omega) (by first | decide | assumption) ?_
        refine hv_aload_n dX2_findBestSale_58 rfl ?_
        refine hv_aload_n dX2_findBestSale_59 rfl ?_
        refine hv_aload_n dX2_findBestSale_60 rfl ?_
        refine hv_getr dX2_findBestSale_61 fl_X2_12 (by first | rfl | assumption) rfl (by first | rfl | assumption) ?_
        refine hv_cv2 (c_price_22 (okC_of ok q4 rfl) q3) dX2_findBestSale_64 ml_X2_145 mk_X2_price (by first | rfl | assumption) rfl rfl rfl rfl rfl ?_
        rintro _ _ σ2 _ ⟨rfl, rfl, rfl, q5⟩
        rw [twC_of q4 rfl, fPrice_congr (tEq.rf (σ := σ) (h := h) (sz := sz)) (show dEq (tH (twC σ h sz)) _ _ from q7)]
        have q6 : ∀ c, c ∉ xBst → σ2 c = σ c := off_tr q4 q5 (by decide) (by decide)
        have e21 : σ2 21 = σ' 21 := by rw [q5 21 (by decide), q1 21 (by decide)]
        refine hv_imul dX2_findBestSale_67 ?_
        refine hv_cv2 (c_weigh) dX2_findBestSale_68 ml_X2_149 mk_X2_weigh (by first | rfl | assumption) rfl rfl rfl rfl rfl ?_
        rintro _ _ σ3 _ ⟨rfl, rfl, rfl, q8, q9⟩
        refine hv_iinc dX2_findBestSale_71 rfl (nI_1 i) rfl rfl ?_
        refine hv_goto (tgt := 16) dX2_findBestSale_74 (by decide) ?_
        refine ih (i + 1) σ3 (by omega) ⟨off_tr q6 q8 (by decide) (by decide), ?_, ?_, ?_⟩
        · rw [dyC_of q8 rfl, dyC_of q5 rfl]; exact q7
        · rw [q8 22 (by decide), q5 22 (by decide)]; exact q3
        · rw [q9, e21]
          have hb1 := congrArg Prod.fst hb
          have hb2 := congrArg Prod.snd hb
          dsimp only at hb1 hb2
          rw [hb1, hb2, fBest]
          rw [show σ1 23 a = _ from (q7.1 a ha).1]; rfl
  refine hv_aload_n dX2_findBestSale_0 rfl ?_
  refine hv_getr dX2_findBestSale_1 fl_X2_12 (by first | rfl | assumption) rfl (by first | rfl | assumption) ?_
  refine hv_aload_n dX2_findBestSale_4 rfl ?_
  refine hv_cv1 (c_copy) dX2_findBestSale_5 ml_X2_132 mk_X6_copy (by first | rfl | assumption) rfl rfl rfl rfl rfl ?_
  rintro _ _ σ1 _ ⟨rfl, rfl, rfl, q1, q2, q3⟩
  refine hv_aload_n dX2_findBestSale_8 rfl ?_
  refine hv_iconst (v := -1) dX2_findBestSale_9 (by decide) ?_
  refine hv_puti dX2_findBestSale_10 fl_X2_139 (by first | rfl | assumption) rfl rfl rfl ?_
  refine hv_iconst (v := 0) dX2_findBestSale_13 (by decide) ?_
  refine hv_istore dX2_findBestSale_14 rfl rfl ?_
  refine loop (n + 1) 0 _ (by omega) ⟨?_, ?_, ?_, ?_⟩
  · exact off_up (fun c hc => q1 c (fun q => hc (by simp at q ⊢; omega))) (by decide)
  · rw [dyC_of (X := [21]) (σ := σ1) (fun c hc => by rw [hva_ne (by simpa using hc)]) rfl]; exact q2.mono k2
  · rw [hva_ne (by decide)]; exact q3.trans hs5
  · rw [hup_eq, pk_us, pk_un (by decide), q1 21 (by decide)]; rfl
theorem c_findDearest {h sz n  : Nat} {Q : hPo} (ok : okC σ h sz) (hs5 : σ 11 5 = nI h) (hn : n ≤ 24)  (hQ : ∀ σ' : hS, (∀ c, c ∉ xBst → σ' c = σ c) → (σ' 21 4, σ' 21 5) = fBest (fDear (twC σ h sz) (σ 38 12) (dyC σ 11)) (σ 21 4) (n + 1) → Q none (rr 38 51 x y) σ' τ) : hCal G (m_X2_findDearest Q) [.ref (hgA G 21), .ref (hgA G 38), .ref (hgA G 11), .int (nI n)] shp (rr 38 51 x y) σ τ := by
  have k2 := ok.2.1
  refine hv_enter pn_X2 rfl ?_
  have loop : ∀ k i (σ' : hS), i + k = n + 1 → pBst σ h sz (fDear (twC σ h sz) (σ 38 12) (dyC σ 11)) (i - 1) i σ' → hV G (m_X2_findDearest Q) 0 0 shp 16 [some (.ref (hgA G 21)), some (.ref (hgA G 38)), some (.ref (hgA G 11)), some (.int (nI n)), some (.int (nI i))] [] (rr 38 51 x y) σ' τ := by
    intro k
    induction k with
    | zero =>
      intro i σ' hi hp
      obtain rfl : i = n + 1 := by omega
      refine hv_iload dX2_findDearest_16 rfl ?_
      refine hv_iload_n dX2_findDearest_18 rfl ?_
      refine hv_icmp_gt (tgt := 66) dX2_findDearest_19 (by decide) (fun c_19 => ?_) (fun c_19 => absurd ((nI_lt (by omega) (by omega))) c_19)
      refine hv_vret dX2_findDearest_66 rfl ?_
      exact hQ σ' hp.1 hp.2.2.2
    | succ k ih =>
      intro i σ' hi hp
      obtain ⟨hσ, hd, h5, hb⟩ := hp
      have et : twC σ' h sz = twC σ h sz := twC_of hσ rfl
      refine hv_iload dX2_findDearest_16 rfl ?_
      refine hv_iload_n dX2_findDearest_18 rfl ?_
      refine hv_icmp_gt (tgt := 66) dX2_findDearest_19 (by decide) (fun c_19 => absurd c_19 ((nI_nlt (by omega) (by omega)))) (fun c_19 => ?_)
      refine hv_aload_n dX2_findDearest_22 rfl ?_
      refine hv_aload_n dX2_findDearest_23 rfl ?_
      refine hv_aload_n dX2_findDearest_24 rfl ?_
      refine hv_getr dX2_findDearest_25 fl_X2_12 (by first | rfl | assumption) rfl (by first | rfl | assumption) ?_
      refine hv_iload dX2_findDearest_28 rfl ?_
      refine hv_if_ne (tgt := 37) dX2_findDearest_30 (by decide) (fun c_30 => ?_) (fun c_30 => ?_)
      · have hm : (1 : Int32) = nI (if i = 0 then 0 else 1) := by
          by_cases e : i = 0
          · exact absurd (by rw [e]; rfl) c_30
          · rw [if_neg e]; rfl
        refine hv_iconst (v := 1) dX2_findDearest_37 (by decide) ?_
        refine hv_str (st' := .int (nI (if i = 0 then 0 else 1)) :: [.ref (hgA G 22), .ref (hgA G 38), .ref (hgA G 21)]) (by rw [← hm]) ?_
        refine hv_aload_n dX2_findDearest_38 rfl ?_
        refine hv_geti dX2_findDearest_39 fl_X2_142 (by first | rfl | assumption) rfl ?_
        refine hv_cv4 (c_passMany_22 (okC_of ok hσ rfl) h5 (by split <;> decide)) dX2_findDearest_42 ml_X2_136 mk_X2_passMany (by first | rfl | assumption) rfl rfl rfl rfl rfl ?_
        rintro _ _ σ1 _ ⟨rfl, rfl, rfl, q1, q2, q3⟩
        have q4 : ∀ c, c ∉ xBst → σ1 c = σ c := off_tr hσ q1 (by decide) (by decide)
        have q7 : dEq h (dyC σ1 22) (fDays (twC σ h sz) (fGl (twC σ h sz) (σ 38 12)) i (dyC σ 11)) := by
          rw [et, hσ 38 (by decide)] at q2
          have q := q2.trans (fDays_congr (t := twC σ h sz) (tEq.rf (σ := σ) (h := h) (sz := sz)) _ hd)
          rw [fDays_add] at q
          by_cases e : i = 0
          · subst e; exact q
          · rw [if_neg e, Nat.sub_add_cancel (by omega)] at q; exact q
        refine hv_aload_n dX2_findDearest_45 rfl ?_
        refine hv_iload dX2_findDearest_46 rfl ?_
        refine hv_aload_n dX2_findDearest_48 rfl ?_
        refine hv_aload_n dX2_findDearest_49 rfl ?_
        refine hv_aload_n dX2_findDearest_50 rfl ?_
        refine hv_getr dX2_findDearest_51 fl_X2_12 (by first | rfl | assumption) rfl (by first | rfl | assumption) ?_
        refine hv_cv2 (c_price_22 (okC_of ok q4 rfl) q3) dX2_findDearest_54 ml_X2_145 mk_X2_price (by first | rfl | assumption) rfl rfl rfl rfl rfl ?_
        rintro _ _ σ2 _ ⟨rfl, rfl, rfl, q5⟩
        rw [twC_of q4 rfl, fPrice_congr (tEq.rf (σ := σ) (h := h) (sz := sz)) (show dEq (tH (twC σ h sz)) _ _ from q7)]
        have q6 : ∀ c, c ∉ xBst → σ2 c = σ c := off_tr q4 q5 (by decide) (by decide)
        have e21 : σ2 21 = σ' 21 := by rw [q5 21 (by decide), q1 21 (by decide)]
        refine hv_cv2 (c_weigh) dX2_findDearest_57 ml_X2_149 mk_X2_weigh (by first | rfl | assumption) rfl rfl rfl rfl rfl ?_
        rintro _ _ σ3 _ ⟨rfl, rfl, rfl, q8, q9⟩
        refine hv_iinc dX2_findDearest_60 rfl (nI_1 i) rfl rfl ?_
        refine hv_goto (tgt := 16) dX2_findDearest_63 (by decide) ?_
        refine ih (i + 1) σ3 (by omega) ⟨off_tr q6 q8 (by decide) (by decide), ?_, ?_, ?_⟩
        · rw [dyC_of q8 rfl, dyC_of q5 rfl]; exact q7
        · rw [q8 22 (by decide), q5 22 (by decide)]; exact q3
        · rw [q9, e21]
          have hb1 := congrArg Prod.fst hb
          have hb2 := congrArg Prod.snd hb
          dsimp only at hb1 hb2
          rw [hb1, hb2, fBest]
          rfl
      · have hm : (0 : Int32) = nI (if i = 0 then 0 else 1) := by
          by_cases e : i = 0
          · rw [if_pos e]; rfl
          · exact absurd c_30 (nI_ne0 (by omega) (by omega))
        refine hv_iconst (v := 0) dX2_findDearest_33 (by decide) ?_
        refine hv_goto (tgt := 38) dX2_findDearest_34 (by decide) ?_
        refine hv_str (st' := .int (nI (if i = 0 then 0 else 1)) :: [.ref (hgA G 22), .ref (hgA G 38), .ref (hgA G 21)]) (by rw [← hm]) ?_
        refine hv_aload_n dX2_findDearest_38 rfl ?_
        refine hv_geti dX2_findDearest_39 fl_X2_142 (by first | rfl | assumption) rfl ?_
        refine hv_cv4 (c_passMany_22 (okC_of ok hσ rfl) h5 (by split <;> decide)) dX2_findDearest_42 ml_X2_136 mk_X2_passMany (by first | rfl | assumption) rfl rfl rfl rfl rfl ?_
        rintro _ _ σ1 _ ⟨rfl, rfl, rfl, q1, q2, q3⟩
        have q4 : ∀ c, c ∉ xBst → σ1 c = σ c := off_tr hσ q1 (by decide) (by decide)
        have q7 : dEq h (dyC σ1 22) (fDays (twC σ h sz) (fGl (twC σ h sz) (σ 38 12)) i (dyC σ 11)) := by
          rw [et, hσ 38 (by decide)] at q2
          have q := q2.trans (fDays_congr (t := twC σ h sz) (tEq.rf (σ := σ) (h := h) (sz := sz)) _ hd)
          rw [fDays_add] at q
          by_cases e : i = 0
          · subst e; exact q
          · rw [if_neg e, Nat.sub_add_cancel (by omega)] at q; exact q
        refine hv_aload_n dX2_findDearest_45 rfl ?_
        refine hv_iload dX2_findDearest_46 rfl ?_
        refine hv_aload_n dX2_findDearest_48 rfl ?_
        refine hv_aload_n dX2_findDearest_49 rfl ?_
        refine hv_aload_n dX2_findDearest_50 rfl ?_
        refine hv_getr dX2_findDearest_51 fl_X2_12 (by first | rfl | assumption) rfl (by first | rfl | assumption) ?_
        refine hv_cv2 (c_price_22 (okC_of ok q4 rfl) q3) dX2_findDearest_54 ml_X2_145 mk_X2_price (by first | rfl | assumption) rfl rfl rfl rfl rfl ?_
        rintro _ _ σ2 _ ⟨rfl, rfl, rfl, q5⟩
        rw [twC_of q4 rfl, fPrice_congr (tEq.rf (σ := σ) (h := h) (sz := sz)) (show dEq (tH (twC σ h sz)) _ _ from q7)]
        have q6 : ∀ c, c ∉ xBst → σ2 c = σ c := off_tr q4 q5 (by decide) (by decide)
        have e21 : σ2 21 = σ' 21 := by rw [q5 21 (by decide), q1 21 (by decide)]
        refine hv_cv2 (c_weigh) dX2_findDearest_57 ml_X2_149 mk_X2_weigh (by first | rfl | assumption) rfl rfl rfl rfl rfl ?_
        rintro _ _ σ3 _ ⟨rfl, rfl, rfl, q8, q9⟩
        refine hv_iinc dX2_findDearest_60 rfl (nI_1 i) rfl rfl ?_
        refine hv_goto (tgt := 16) dX2_findDearest_63 (by decide) ?_
        refine ih (i + 1) σ3 (by omega) ⟨off_tr q6 q8 (by decide) (by decide), ?_, ?_, ?_⟩
        · rw [dyC_of q8 rfl, dyC_of q5 rfl]; exact q7
        · rw [q8 22 (by decide), q5 22 (by decide)]; exact q3
        · rw [q9, e21]
          have hb1 := congrArg Prod.fst hb
          have hb2 := congrArg Prod.snd hb
          dsimp only at hb1 hb2
          rw [hb1, hb2, fBest]
          rfl
  refine hv_aload_n dX2_findDearest_0 rfl ?_
  refine hv_getr dX2_findDearest_1 fl_X2_12 (by first | rfl | assumption) rfl (by first | rfl | assumption) ?_
  refine hv_aload_n dX2_findDearest_4 rfl ?_
  refine hv_cv1 (c_copy) dX2_findDearest_5 ml_X2_132 mk_X6_copy (by first | rfl | assumption) rfl rfl rfl rfl rfl ?_
  rintro _ _ σ1 _ ⟨rfl, rfl, rfl, q1, q2, q3⟩
  refine hv_aload_n dX2_findDearest_8 rfl ?_
  refine hv_iconst (v := -1) dX2_findDearest_9 (by decide) ?_
  refine hv_puti dX2_findDearest_10 fl_X2_139 (by first | rfl | assumption) rfl rfl rfl ?_
  refine hv_iconst (v := 0) dX2_findDearest_13 (by decide) ?_
  refine hv_istore dX2_findDearest_14 rfl rfl ?_
  refine loop (n + 1) 0 _ (by omega) ⟨?_, ?_, ?_, ?_⟩
  · exact off_up (fun c hc => q1 c (fun q => hc (by simp at q ⊢; omega))) (by decide)
  · rw [dyC_of (X := [21]) (σ := σ1) (fun c hc => by rw [hva_ne (by simpa using hc)]) rfl]; exact q2.mono k2
  · rw [hva_ne (by decide)]; exact q3.trans hs5
  · rw [hup_eq, pk_us, pk_un (by decide), q1 21 (by decide)]; rfl
end S15

