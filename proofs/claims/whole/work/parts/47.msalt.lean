theorem add_rng {s f m : Int32} (h0 : 0 ≤ s) (h1 : s ≤ f) (h2 : f ≤ 9999) (h3 : 0 ≤ m) (h4 : m ≤ f - s) : 0 ≤ s + m ∧ s + m ≤ f := by
  rw [i32_le] at h0 h1 h2 h3 h4
  rw [Int32.toInt_zero] at h0 h3
  rw [show (9999 : Int32).toInt = 9999 from by decide] at h2
  rw [s32_sub (by omega) (by omega)] at h4
  have hs : (s + m).toInt = s.toInt + m.toInt := s32_add (by omega) (by omega)
  constructor
  · rw [i32_le, hs, Int32.toInt_zero]; omega
  · rw [i32_le, hs]; omega
theorem okN_nI {σ : hS} {c h a : Nat} (hN : okN σ c h) (ha : a < h) : ∃ f, σ c a - σ c (14 + a) = nI f ∧ f ≤ 9999 := by
  obtain ⟨n1, n2, n3, n4⟩ := hN a ha
  have r1 := sub_rng n3 n4
  rcases pk_ix (σ c a - σ c (14 + a)) (n := 10000) (by decide) with q | q | ⟨f, hf, e⟩
  · exact absurd q (Int32.not_lt.mpr r1.1)
  · exact absurd (Int32.le_trans q (Int32.le_trans r1.2 n2)) (by decide)
  · exact ⟨f, e, by omega⟩
theorem dSalt_congr {h a : Nat} {d e : hDy} {s : Int32} (q : dEq h d e) : dEq h (dSalt d a s) (dSalt e a s) := by
  refine ⟨fun b hb => ?_, q.2.1, q.2.2⟩
  obtain ⟨q1, q2, q3, q4, q5⟩ := q.1 b hb
  refine ⟨q1, q2, ?_, q4, q5⟩
  show upd (dS d) a _ b = upd (dS e) a _ b
  by_cases c : b = a
  · subst c; rw [pk_us, pk_us, q3]
  · rw [pk_un c, pk_un c, q3]
section S47
variable {G : hGl} {σ : hS} {τ : hT} {x y : Option Nat}
theorem d_hasWith {L h a n : Nat} {LF : Nat → hF → Int32} {m : Int32} (ok : okR σ L h LF) (ha : a < h) (hn : n ≤ 60) (hm : 0 ≤ m) (hm2 : m ≤ σ 98 a - σ 98 (14 + a)) : hCal G (m_X12_hasWith (hRq (dF (fDays (twM σ L h LF) (fGl (twM σ L h LF) (σ 85 L)) n (dSalt (dyM σ 98) a m)) a) x y σ τ)) [.ref (hgA G 64), .int (nI a), .int m, .int (nI n)] shp (rr 38 51 x y) σ τ := by
  have k2 := ok.1.2.2.2.1
  refine hv_enter pn_X12 rfl ?_
  refine hv_aload_n dX12_hasWith_0 rfl ?_
  refine hv_cv0 (d_copies ok.1.1 ok.1.2.1) dX12_hasWith_1 ml_X12_373 mk_X12_copies (by first | rfl | assumption) rfl rfl rfl rfl rfl ?_
  rintro _ _ σ1 _ ⟨rfl, rfl, rfl, q1, q2, q3⟩
  have qc := cp_of ok q1 q2 q3
  obtain ⟨c1, c2, c3, c4, c5, c6, c7, c8⟩ := qc
  refine hv_aload_n dX12_hasWith_4 rfl ?_
  refine hv_getr dX12_hasWith_5 fl_X12_122 (by first | rfl | assumption) rfl (by first | rfl | assumption) ?_
  refine hv_bipush (v := 14) dX12_hasWith_8 (by decide) ?_
  refine hv_iload_n dX12_hasWith_10 rfl ?_
  refine hv_iadd dX12_hasWith_11 ?_
  refine hv_dup2 dX12_hasWith_12 rfl rfl ?_
  refine hv_iald dX12_hasWith_13 (by first | rfl | assumption) (j := 14 + a) (nI_add 14 a) (by omega) (by first | decide | assumption) ?_
  refine hv_iload_n dX12_hasWith_14 rfl ?_
  refine hv_iadd dX12_hasWith_15 ?_
  refine hv_iast dX12_hasWith_16 (by first | rfl | assumption) (j := 14 + a) (nI_add 14 a) (by omega) (by first | decide | assumption) ?_
  obtain ⟨σ2, hσ2⟩ : ∃ s, va_up σ1 99 (upd (σ1 99) (14 + a) (σ1 99 (14 + a) + m)) = s := ⟨_, rfl⟩
  rw [hσ2]
  have u1 : σ2 99 (14 + a) = σ1 99 (14 + a) + m := by rw [← hσ2, hup_eq, pk_us]
  have u2 : ∀ j, j ≠ 14 + a → σ2 99 j = σ1 99 j := fun j hj => by rw [← hσ2, hup_eq, pk_un hj]
  have u3 : ∀ c, c ∉ [99] → σ2 c = σ1 c := by rw [← hσ2]; exact off_up (fun _ _ => rfl) (by decide)
  have u4 : okT σ2 L h LF := okT_of c1 u3 rfl (by rw [u3 64 (by decide)])
  have u5 : okZ σ2 99 h := fun b h1 h2 => by
    rw [u2 b (by omega), u2 (7 + b) (by omega), u2 (14 + b) (by omega), u2 (21 + b) (by omega)]
    exact c2 b h1 h2
  have u6 : okN σ2 99 h := fun b hb => by
    obtain ⟨n1, n2, n3, n4⟩ := c3 b hb
    rw [u2 b (by omega)]
    by_cases e : b = a
    · subst e
      rw [u1]
      have := add_rng n3 n4 n2 hm (by rw [c8 b (by omega), c8 (14 + b) (by omega)]; exact hm2)
      exact ⟨n1, n2, this.1, this.2⟩
    · rw [u2 (14 + b) (by omega)]; exact ⟨n1, n2, n3, n4⟩
  have u7 : dEq 7 (dyM σ2 99) (dSalt (dyM σ 98) a m) := by
    refine ⟨fun b hb => ⟨?_, ?_, ?_, ?_, ?_⟩, ?_, ?_⟩
    · show σ2 99 b = σ 98 b; rw [u2 b (by omega), c8 b (by omega)]
    · show σ2 99 (7 + b) = σ 98 (7 + b); rw [u2 _ (by omega), c8 _ (by omega)]
    · show σ2 99 (14 + b) = upd (fun a => σ 98 (14 + a)) a (σ 98 (14 + a) + m) b
      by_cases e : b = a
      · subst e; rw [u1, pk_us, c8 _ (by omega)]
      · rw [u2 _ (by omega), pk_un e, c8 _ (by omega)]
    · show σ2 99 (21 + b) = σ 98 (21 + b); rw [u2 _ (by omega), c8 _ (by omega)]
    · show dPx (σ2 99 (28 + b)) = dPx (σ 98 (28 + b)); rw [u2 _ (by omega), c8 _ (by omega)]
    · show σ2 99 36 = σ 98 36; rw [u2 _ (by omega), c8 _ (by omega)]
    · show σ2 99 35 = σ 98 35; rw [u2 _ (by omega), c8 _ (by omega)]
  refine hv_aload_n dX12_hasWith_17 rfl ?_
  refine hv_iload_n dX12_hasWith_18 rfl ?_
  refine hv_cv1 (d_goes u4 u5 u6 (by omega)) dX12_hasWith_19 ml_X12_391 mk_X12_goes (by first | rfl | assumption) rfl rfl rfl rfl rfl ?_
  rintro _ _ σ3 _ ⟨rfl, rfl, rfl, q4, q5⟩
  obtain ⟨g1, g2, g3, g4, g5⟩ := q5
  refine hv_aload_n dX12_hasWith_22 rfl ?_
  refine hv_getr dX12_hasWith_23 fl_X12_122 (by first | rfl | assumption) rfl (by first | rfl | assumption) ?_
  refine hv_iload_n dX12_hasWith_26 rfl ?_
  refine hv_iald dX12_hasWith_27 (by first | rfl | assumption) rfl (by first | assumption | omega) (by first | decide | assumption) ?_
  refine hv_iret dX12_hasWith_28 rfl ?_
  refine ⟨?_, rfl, rfl, off_tr (off_tr q1 u3 (Z := xRq) (by decide) (by decide)) q4 (by decide) (by decide), fun j j1 j2 j3 => by rw [g4 j j1, u3 64 (by decide), c7 j j2]⟩
  rw [twM_of u3 rfl, c5, u3 64 (by decide), c6] at g1
  exact congrArg (fun z => some (Value.int z)) ((g1.trans (fDays_congr (tEqM ok.1) n (u7.mono k2))).1 a ha).1.symm
theorem okR_of {X : List Nat} {σ' : hS} {L h : Nat} {LF : Nat → hF → Int32} (ok : okR σ L h LF) (hσ : ∀ k, k ∉ X → σ' k = σ k) (hX : hdj X [74, 86, 87, 88, 89, 90, 91, 92, 93, 94] = true) (h98 : X.contains 98 = false) (h18 : σ' 64 18 = σ 64 18) : okR σ' L h LF := by
  have e : σ' 98 = σ 98 := hσ 98 (by simpa using h98)
  refine ⟨okT_of ok.1 hσ hX h18, ?_, ?_⟩
  · unfold okZ; rw [e]; exact ok.2.1
  · unfold okN; rw [e]; exact ok.2.2
theorem d_salting {L h : Nat} {LF : Nat → hF → Int32} {a n : Int32} (ok : okR σ L h LF) : hCal G (m_X12_salting (hRq (if isH h a = true ∧ inI 1 24 n = true then fLst (fun i => decide (dF (fDays (twM σ L h LF) (fGl (twM σ L h LF) (σ 85 L)) n.toNatClampNeg (dSalt (dyM σ 98) a.toNatClampNeg (σ 98 a.toNatClampNeg - σ 98 (14 + a.toNatClampNeg)))) a.toNatClampNeg ≤ dF (fDays (twM σ L h LF) (fGl (twM σ L h LF) (σ 85 L)) n.toNatClampNeg (dSalt (dyM σ 98) a.toNatClampNeg (nI i))) a.toNatClampNeg)) (min (σ 98 a.toNatClampNeg - σ 98 (14 + a.toNatClampNeg)).toNatClampNeg 99 + 1) 0 else -1) x y σ τ)) [.ref (hgA G 64), .int a, .int n] shp (rr 38 51 x y) σ τ := by
  have k2 := ok.1.2.2.2.1
  refine hv_enter pn_X12 rfl ?_
  have call : ∀ {s : Int32} {σ' : hS} {ai ni : Nat}, ai < h → ni ≤ 60 → (∀ c, c ∉ xRq → σ' c = σ c) → k64 σ σ' → 0 ≤ s → s ≤ σ 98 ai - σ 98 (14 + ai) → hCal G (m_X12_hasWith (hRq (dF (fDays (twM σ L h LF) (fGl (twM σ L h LF) (σ 85 L)) ni (dSalt (dyM σ 98) ai s)) ai) x y σ' τ)) [.ref (hgA G 64), .int (nI ai), .int s, .int (nI ni)] shp (rr 38 51 x y) σ' τ := by
    intro s σ' ai ni hai hni q q64 s1 s2
    have hc := d_hasWith (G := G) (σ := σ') (τ := τ) (x := x) (y := y) (m := s) (n := ni) (okR_of ok q rfl rfl (q64 18 (by decide) (by decide) (by decide))) hai hni s1 (by rw [q 98 (by decide)]; exact s2)
    rw [twM_of q rfl, q 85 (by decide), show dyM σ' 98 = dyM σ 98 by unfold dyM; rw [q 98 (by decide)]] at hc
    exact hc
  have loop : ∀ ai ni f (V : Int32 → Int32), ai < h → ni ≤ 60 → f ≤ 9999 → σ 98 ai - σ 98 (14 + ai) = nI f → (∀ s, dF (fDays (twM σ L h LF) (fGl (twM σ L h LF) (σ 85 L)) ni (dSalt (dyM σ 98) ai s)) ai = V s) → ∀ k i (σ' : hS) (res : Int32), i + k = min f 99 + 1 → fLst (fun i => decide (V (nI f) ≤ V (nI i))) k i = res → (∀ c, c ∉ xRq → σ' c = σ c) → k64 σ σ' → hV G (m_X12_salting (hRq res x y σ τ)) 0 0 shp 49 [some (.ref (hgA G 64)), some (.int (nI ai)), some (.int (nI ni)), some (.int (nI f)), some (.int (V (nI f))), some (.int (nI i))] [] (rr 38 51 x y) σ' τ := by
    intro ai ni f V hai hni hf hff hV k
    induction k with
    | zero =>
      intro i σ' res hi hr hσ h64
      refine hv_iload dX12_salting_49 rfl ?_
      refine hv_bipush (v := 99) dX12_salting_51 (by decide) ?_
      refine hv_icmp_gt (tgt := 84) dX12_salting_53 (by decide) (fun c_53 => ?_) (fun c_53 => ?_)
      · refine hv_bipush (v := -2) dX12_salting_84 (by decide) ?_
        refine hv_iret dX12_salting_86 rfl ?_
        exact ⟨congrArg (fun z => some (Value.int z)) hr.symm, rfl, rfl, hσ, h64⟩
      · have hif : f < i := by
          have h1 := (nI_leI (a := i) (b := 99) (by omega) (by decide)).mp (Int32.not_lt.mp c_53)
          omega
        refine hv_iload dX12_salting_56 rfl ?_
        refine hv_iload_n dX12_salting_58 rfl ?_
        refine hv_icmp_gt (tgt := 84) dX12_salting_59 (by decide) (fun c_59 => ?_) (fun c_59 => ?_)
        · refine hv_bipush (v := -2) dX12_salting_84 (by decide) ?_
          refine hv_iret dX12_salting_86 rfl ?_
          exact ⟨congrArg (fun z => some (Value.int z)) hr.symm, rfl, rfl, hσ, h64⟩
        · exact absurd (nI_lt hif (by omega)) c_59
          skip
    | succ k ih =>
      intro i σ' res hi hr hσ h64
      rw [fLst] at hr
      refine hv_iload dX12_salting_49 rfl ?_
      refine hv_bipush (v := 99) dX12_salting_51 (by decide) ?_
      refine hv_icmp_gt (tgt := 84) dX12_salting_53 (by decide) (fun c_53 => absurd c_53 ((nI_nlt (a := 99) (by omega) (by omega)))) (fun c_53 => ?_)
      refine hv_iload dX12_salting_56 rfl ?_
      refine hv_iload_n dX12_salting_58 rfl ?_
      refine hv_icmp_gt (tgt := 84) dX12_salting_59 (by decide) (fun c_59 => absurd c_59 ((nI_nlt (by omega) (by omega)))) (fun c_59 => ?_)
      refine hv_aload_n dX12_salting_62 rfl ?_
      refine hv_iload_n dX12_salting_63 rfl ?_
      refine hv_iload dX12_salting_64 rfl ?_
      refine hv_iload_n dX12_salting_66 rfl ?_
      refine hv_cv3 (call hai hni hσ h64 (Int32.not_lt.mp (nI_pos (by omega))) (by rw [hff]; exact nI_le (by omega) (by omega))) dX12_salting_67 ml_X12_428 mk_X12_hasWith (by first | rfl | assumption) rfl rfl rfl rfl rfl ?_
      rintro _ _ σ1 _ ⟨rfl, rfl, rfl, q1, q2⟩
      rw [hV]
      refine hv_iload dX12_salting_70 rfl ?_
      refine hv_icmp_lt (tgt := 78) dX12_salting_72 (by decide) (fun c_72 => ?_) (fun c_72 => ?_)
      · rw [if_neg (by simpa using c_72)] at hr
        refine hv_iinc dX12_salting_78 rfl (nI_1 i) rfl rfl ?_
        refine hv_goto (tgt := 49) dX12_salting_81 (by decide) ?_
        exact ih (i + 1) σ1 res (by omega) hr (off_tr hσ q1 (by decide) (by decide)) (fun j j1 j2 j3 => (q2 j j1 j2 j3).trans (h64 j j1 j2 j3))
      · rw [if_pos (by simpa using Int32.not_lt.mp c_72)] at hr
        refine hv_iload dX12_salting_75 rfl ?_
        refine hv_iret dX12_salting_77 rfl ?_
        exact ⟨congrArg (fun z => some (Value.int z)) hr.symm, rfl, rfl, off_tr hσ q1 (by decide) (by decide), fun j j1 j2 j3 => (q2 j j1 j2 j3).trans (h64 j j1 j2 j3)⟩
  refine hv_aload_n dX12_salting_0 rfl ?_
  refine hv_iload_n dX12_salting_1 rfl ?_
  refine hv_cv1 (d_isHouse ok.1.1 ok.1.2.1 ok.1.2.2.1 k2) dX12_salting_2 ml_X12_370 mk_X12_isHouse (by first | rfl | assumption) rfl rfl rfl rfl rfl ?_
  rintro _ _ _ _ ⟨rfl, rfl, rfl, rfl⟩
  refine hv_if_eq (tgt := 18) dX12_salting_5 (by decide) (fun c_5 => ?_) (fun c_5 => ?_)
  · rw [if_neg (fun qq => by rw [bI_0 c_5] at qq; exact absurd qq.1 (by decide))]
    refine hv_iconst (v := -1) dX12_salting_18 (by decide) ?_
    refine hv_iret dX12_salting_19 rfl ?_
    exact ⟨rfl, rfl, rfl, fun _ _ => rfl, k64_rf⟩
  · refine hv_iload_n dX12_salting_8 rfl ?_
    refine hv_iconst (v := 1) dX12_salting_9 (by decide) ?_
    refine hv_bipush (v := 24) dX12_salting_10 (by decide) ?_
    refine hv_cs3 (d_in) dX12_salting_12 ml_X12_319 mk_X12_in rfl rfl rfl ?_
    rintro _ _ _ _ ⟨rfl, rfl, rfl, rfl⟩
    refine hv_if_ne (tgt := 20) dX12_salting_15 (by decide) (fun c_15 => ?_) (fun c_15 => ?_)
    · rw [if_pos ⟨bI_1 c_5, bI_1 c_15⟩]
      obtain ⟨ai, hai, rfl⟩ := isH_ix k2 (bI_1 c_5)
      have hin := of_decide_eq_true (bI_1 c_15)
      obtain ⟨ni, hni, rfl⟩ := inI_ix (n := 24) (a := n) (by decide) (decide_eq_true ⟨Int32.le_trans (by decide) hin.1, hin.2⟩)
      obtain ⟨ff, hff, hfb⟩ := okN_nI ok.2.2 hai
      rw [nI_clamp (by omega), nI_clamp (by omega), hff, nI_clamp (by omega)]
      refine hv_aload_n dX12_salting_20 rfl ?_
      refine hv_getr dX12_salting_21 fl_X12_119 (by first | rfl | assumption) rfl (by first | rfl | assumption) ?_
      refine hv_iload_n dX12_salting_24 rfl ?_
      refine hv_iald dX12_salting_25 (by first | rfl | assumption) rfl (by first | assumption | omega) (by first | decide | assumption) ?_
      refine hv_aload_n dX12_salting_26 rfl ?_
      refine hv_getr dX12_salting_27 fl_X12_119 (by first | rfl | assumption) rfl (by first | rfl | assumption) ?_
      refine hv_bipush (v := 14) dX12_salting_30 (by decide) ?_
      refine hv_iload_n dX12_salting_32 rfl ?_
      refine hv_iadd dX12_salting_33 ?_
      refine hv_iald dX12_salting_34 (by first | rfl | assumption) (j := 14 + ai) (nI_add 14 ai) (by omega) (by first | decide | assumption) ?_
      refine hv_isub dX12_salting_35 ?_
      rw [hff]
      obtain ⟨V, hV⟩ : ∃ V : Int32 → Int32, ∀ s, dF (fDays (twM σ L h LF) (fGl (twM σ L h LF) (σ 85 L)) ni (dSalt (dyM σ 98) ai s)) ai = V s := ⟨_, fun _ => rfl⟩
      simp only [hV]
      refine hv_istore_n dX12_salting_36 rfl rfl ?_
      refine hv_aload_n dX12_salting_37 rfl ?_
      refine hv_iload_n dX12_salting_38 rfl ?_
      refine hv_iload_n dX12_salting_39 rfl ?_
      refine hv_iload_n dX12_salting_40 rfl ?_
      refine hv_cv3 (call hai (by omega) (fun _ _ => rfl) k64_rf (Int32.not_lt.mp (nI_pos (by omega))) (by rw [hff]; exact Int32.le_refl _)) dX12_salting_41 ml_X12_428 mk_X12_hasWith (by first | rfl | assumption) rfl rfl rfl rfl rfl ?_
      rintro _ _ σ1 _ ⟨rfl, rfl, rfl, q1, q2⟩
      rw [hV]
      refine hv_istore dX12_salting_44 rfl rfl ?_
      refine hv_iconst (v := 0) dX12_salting_46 (by decide) ?_
      refine hv_istore dX12_salting_47 rfl rfl ?_
      exact loop ai ni ff V hai (by omega) hfb hff hV (min ff 99 + 1) 0 σ1 _ (by omega) rfl q1 q2
    · rw [if_neg (fun qq => by rw [bI_0 c_15] at qq; exact absurd qq.2 (by decide))]
      refine hv_iconst (v := -1) dX12_salting_18 (by decide) ?_
      refine hv_iret dX12_salting_19 rfl ?_
      exact ⟨rfl, rfl, rfl, fun _ _ => rfl, k64_rf⟩
end S47

