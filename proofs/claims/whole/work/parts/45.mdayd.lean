abbrev m_X12_votesOf (Q : hPo) : hMe := (hrm 4, 0, 0, yX12_votesOf, cX12_votesOf, 4, (some FieldType.int), shp, none, Q)
theorem hmin_rng {s f : Int32} (h0 : 0 ≤ s) (h1 : 0 ≤ f) : 0 ≤ hmin s f ∧ hmin s f ≤ f := by
  unfold hmin
  by_cases c : s > f
  · rw [if_pos c]; exact ⟨h1, Int32.le_refl _⟩
  · rw [if_neg c]; exact ⟨h0, Int32.not_lt.mp c⟩
theorem sub_sub_rng {f s g : Int32} (h0 : 0 ≤ s) (h1 : s ≤ f) (h2 : f ≤ 9999) (h3 : 0 ≤ g) (h4 : g ≤ f - s) : s ≤ f - g ∧ f - g ≤ 9999 := by
  rw [i32_le] at h0 h1 h2 h3 h4
  rw [Int32.toInt_zero] at h0 h3
  rw [show (9999 : Int32).toInt = 9999 from by decide] at h2
  rw [s32_sub (by omega) (by omega)] at h4
  have hs : (f - g).toInt = f.toInt - g.toInt := s32_sub (by omega) (by omega)
  constructor
  · rw [i32_le, hs]; omega
  · rw [i32_le, hs, show (9999 : Int32).toInt = 9999 from by decide]; omega
def pDayM (L h : Nat) (LF : Nat → hF → Int32) (σ σ' : hS) : Prop := dEq h (dyM σ' 99) (fDay (twM σ L h LF) (fGl (twM σ L h LF) (σ 64 53) (σ 99 36)) (dyM σ 99)) ∧ okZ σ' 99 h ∧ okN σ' 99 h ∧ (∀ j, j ≠ 50 → σ' 64 j = σ 64 j) ∧ ∀ j, 28 ≤ j → j < 36 → σ' 99 j = σ 99 j
theorem hsum_M {σ : hS} {h : Nat} (k2 : h ≤ 7) (hz : okZ σ 99 h) : hsum (fun a => σ 99 (0 + a)) 7 = hsum (dF (dyM σ 99)) h := by
  rw [hsum_z (h := h) 7 k2 (fun a h1 h2 => by rw [Nat.zero_add]; exact (hz a h1 h2).1)]
  exact hsum_congr h (fun a _ => by rw [Nat.zero_add]; rfl)
section S45
variable {G : hGl} {σ : hS} {τ : hT} {x y : Option Nat}
theorem d_dayGoes {L h : Nat} {LF : Nat → hF → Int32} (ok : okT σ L h LF) (hz : okZ σ 99 h) (hN : okN σ 99 h) : hCal G (m_X12_dayGoes (hQp xMd none (rr 38 51 x y) σ τ (pDayM L h LF σ))) [.ref (hgA G 64)] shp (rr 38 51 x y) σ τ := by
  have k2 := ok.2.2.2.1
  have hL2 := ok.2.1
  refine hv_enter pn_X12 rfl ?_
  refine hv_aload_n dX12_dayGoes_0 rfl ?_
  refine hv_cv0 (d_isGlut (t := twM σ L h LF) ok.1 ok.2.1 rfl) dX12_dayGoes_1 ml_X12_348 mk_X12_isGlut (by first | rfl | assumption) rfl rfl rfl rfl rfl ?_
  rintro _ _ _ _ ⟨rfl, rfl, rfl, rfl⟩
  obtain ⟨gl, hgl⟩ : ∃ gl, fGl (twM σ L h LF) (σ 64 53) (σ 99 36) = gl := ⟨_, rfl⟩
  rw [hgl]
  refine hv_istore_n dX12_dayGoes_4 rfl rfl ?_
  refine hv_iconst (v := 0) dX12_dayGoes_5 (by decide) ?_
  refine hv_istore_n dX12_dayGoes_6 rfl rfl ?_
  refine m1_dayGoes ok hN ?_ h 0 σ (by omega) (fun _ _ => rfl) (fun _ _ => rfl) (fun a ha => absurd ha (by omega)) (fun a ha => absurd ha (by omega))
  intro σ1 a1 a2 a3 a4
  have b99 : σ1 99 = σ 99 := a1 99 (by decide)
  have oka : okT σ1 L h LF := okT_of ok a1 rfl (a2 18 (by decide))
  refine hv_iconst (v := 0) dX12_dayGoes_56 (by decide) ?_
  refine hv_istore_n dX12_dayGoes_57 rfl rfl ?_
  refine m2_dayGoes (σ := σ1) oka.1 hL2 oka.2.2.1 k2 ?_ h 0 σ1 (by omega) (fun _ _ => rfl) ⟨fun a ha => absurd ha (by omega), fun _ _ => rfl⟩
  intro σ2 a5 a6
  obtain ⟨a7, a8⟩ := a6
  have okb : okT σ2 L h LF := okT_of oka a5 rfl (by rw [a5 64 (by decide)])
  have hS7 := hsum_M k2 hz
  have eE : ∀ a, a < h → σ1 100 a = fEats (twM σ L h LF) (dyM σ 99) (hsum (dF (dyM σ 99)) h) a := fun a ha => by rw [← hS7]; exact a3 a ha
  have e2r : ∀ a, a < h → 0 ≤ σ1 100 a ∧ σ1 100 a ≤ σ 99 a := fun a ha => by rw [eE a ha]; exact hcl_rng (hN a ha).1
  have e2f : ∀ a, a < h → (0 ≤ σ2 99 a ∧ σ2 99 a ≤ 9999) ∧ 0 ≤ σ2 99 (14 + a) ∧ σ2 99 (14 + a) ≤ σ2 99 a := by
    intro a ha
    obtain ⟨u1, u2, u3⟩ := a7 a ha
    have w := sub_rng (e2r a ha).1 (e2r a ha).2
    rw [u1, u3, b99]
    exact ⟨⟨w.1, Int32.le_trans w.2 (hN a ha).2.1⟩, hmin_rng (hN a ha).2.2.1 w.1⟩
  have edy : dEq h (dyM σ2 99) (fAte (fEats (twM σ L h LF) (dyM σ 99) (hsum (dF (dyM σ 99)) h)) (dyM σ 99)) := by
    refine ⟨fun a ha => ?_, ?_, ?_⟩
    · obtain ⟨u1, u2, u3⟩ := a7 a ha
      rw [eE a ha, b99] at u1 u2 u3
      refine ⟨u1, ?_, u3, u2, ?_⟩
      · show σ2 99 (7 + a) = σ 99 (7 + a)
        rw [a8 _ (fun c hc => ⟨by omega, by omega, by omega⟩), b99]
      · show dPx (σ2 99 (28 + a)) = dPx (σ 99 (28 + a))
        rw [a8 _ (fun c hc => ⟨by omega, by omega, by omega⟩), b99]
    · show σ2 99 36 = σ 99 36
      rw [a8 _ (fun c hc => ⟨by omega, by omega, by omega⟩), b99]
    · show σ2 99 35 = σ 99 35
      rw [a8 _ (fun c hc => ⟨by omega, by omega, by omega⟩), b99]
  have hz2 : okZ σ2 99 h := fun a h1 h2 => by
    rw [a8 a (fun c hc => ⟨by omega, by omega, by omega⟩), a8 (7 + a) (fun c hc => ⟨by omega, by omega, by omega⟩), a8 (14 + a) (fun c hc => ⟨by omega, by omega, by omega⟩), a8 (21 + a) (fun c hc => ⟨by omega, by omega, by omega⟩), b99]
    exact hz a h1 h2
  refine hv_iconst (v := 0) dX12_dayGoes_88 (by decide) ?_
  refine hv_istore_n dX12_dayGoes_89 rfl rfl ?_
  refine m3_dayGoes (σ := σ2) okb (fun a ha => (sub_rng (e2f a ha).2.1 (e2f a ha).2.2).1) ?_ h 0 σ2 (by omega) (fun _ _ => rfl) (fun _ _ => rfl) (fun a ha => absurd ha (by omega))
  intro σ3 c1 c2 c3
  have c99 : σ3 99 = σ2 99 := c1 99 (by decide)
  have hT2 : twM σ2 L h LF = twM σ L h LF := (twM_of a5 rfl).trans (twM_of a1 rfl)
  have hS72 := hsum_M k2 hz2
  rw [hT2, hS72] at c3
  have eS1 : hsum (dF (dyM σ2 99)) h = hsum (dF (fAte (fEats (twM σ L h LF) (dyM σ 99) (hsum (dF (dyM σ 99)) h)) (dyM σ 99))) h := hsum_congr h (fun a ha => (edy.1 a ha).1)
  have tt : tEq (twM σ L h LF) (twM σ L h LF) := ⟨rfl, fun _ _ => ⟨rfl, rfl, rfl⟩, rfl, fun _ _ _ => rfl, ok.2.2.2.2.1⟩
  have eR : ∀ a, a < h → σ3 102 a = fRots (twM σ L h LF) (fAte (fEats (twM σ L h LF) (dyM σ 99) (hsum (dF (dyM σ 99)) h)) (dyM σ 99)) (hsum (dF (fAte (fEats (twM σ L h LF) (dyM σ 99) (hsum (dF (dyM σ 99)) h)) (dyM σ 99))) h) a := fun a ha => by
    rw [c3 a ha, eS1]; exact fRots_congr tt edy ha
  have eRr : ∀ a, a < h → 0 ≤ σ3 102 a ∧ σ3 102 a ≤ σ2 99 a - σ2 99 (14 + a) := fun a ha => by
    rw [c3 a ha]; exact hcl_rng (sub_rng (e2f a ha).2.1 (e2f a ha).2.2).1
  have eG : ∀ a, a < h → σ3 101 a = if gl = true then fGlut (twM σ L h LF) (dyM σ 99) (hsum (dF (dyM σ 99)) h) a else 0 := fun a ha => by
    rw [c1 101 (by decide), a5 101 (by decide), a4 a ha, hS7]
    cases gl with
    | true => rw [if_neg (by decide), if_pos rfl]
    | false => rw [if_pos (show bI false = 0 from rfl), if_neg (by decide)]
  have eGr : ∀ a, a < h → 0 ≤ σ3 101 a ∧ σ3 101 a ≤ 99 := fun a ha => by
    rw [eG a ha]
    cases gl with
    | true => rw [if_pos rfl]; exact hcl_rng (f := 99) (by decide)
    | false => rw [if_neg (by decide)]; exact ⟨by decide, by decide⟩
  refine hv_iconst (v := 0) dX12_dayGoes_120 (by decide) ?_
  refine hv_istore_n dX12_dayGoes_121 rfl rfl ?_
  refine m4_dayGoes (σ := σ3) (by rw [c2 18 (by decide)]; exact okb.1) hL2 (by rw [c1 74 (by decide)]; exact okb.2.2.1) k2 ?_ h 0 σ3 (by omega) (fun _ _ => rfl) (fun a ha => absurd ha (by omega)) (fun _ _ => rfl)
  intro σ4 d1 d2 d3
  have eF : ∀ a, a < h → (σ4 99 a = hmin 9999 (σ2 99 a - σ3 102 a + σ3 101 a)) ∧ σ2 99 (14 + a) ≤ σ4 99 a ∧ σ4 99 a ≤ 9999 := by
    intro a ha
    have w1 := sub_sub_rng (e2f a ha).2.1 (e2f a ha).2.2 (e2f a ha).1.2 (eRr a ha).1 (eRr a ha).2
    have w2 := last_rng (Int32.le_trans (e2f a ha).2.1 w1.1) w1.2 (eGr a ha).1 (eGr a ha).2
    have w3 : σ4 99 a = hmin 9999 (σ2 99 a - σ3 102 a + σ3 101 a) := by rw [d2 a ha, c99, w2.1]
    exact ⟨w3, by rw [w3]; exact Int32.le_trans w1.1 w2.2.1, by rw [w3]; exact w2.2.2⟩
  refine hv_aload_n dX12_dayGoes_174 rfl ?_
  refine hv_getr dX12_dayGoes_175 fl_X12_122 (by first | rfl | assumption) rfl (by first | rfl | assumption) ?_
  refine hv_bipush (v := 36) dX12_dayGoes_178 (by decide) ?_
  refine hv_dup2 dX12_dayGoes_180 rfl rfl ?_
  refine hv_iald dX12_dayGoes_181 (by first | rfl | assumption) (j := 36) rfl (by decide) (by first | decide | assumption) ?_
  refine hv_iconst (v := 1) dX12_dayGoes_182 (by decide) ?_
  refine hv_iadd dX12_dayGoes_183 ?_
  refine hv_iast dX12_dayGoes_184 (by first | rfl | assumption) (j := 36) rfl (by decide) (by first | decide | assumption) ?_
  refine hv_vret dX12_dayGoes_185 rfl ?_
  refine ⟨rfl, rfl, rfl, off_up (off_tr (off_tr (off_tr a1 a5 (Z := xMd) (by decide) (by decide)) c1 (Z := xMd) (by decide) (by decide)) d1 (by decide) (by decide)) (by decide), ?_⟩
  obtain ⟨σ5, hσ5⟩ : ∃ s, va_up σ4 99 (upd (σ4 99) 36 (σ4 99 36 + 1)) = s := ⟨_, rfl⟩
  rw [hσ5]
  have up : ∀ j, j ≠ 36 → σ5 99 j = σ4 99 j := fun j hj => by rw [← hσ5, hup_eq, pk_un hj]
  have up36 : σ5 99 36 = σ4 99 36 + 1 := by rw [← hσ5, hup_eq, pk_us]
  have up64 : σ5 64 = σ4 64 := by rw [← hσ5, hva_ne (by decide)]
  have d4 : ∀ j, h ≤ j → σ4 99 j = σ2 99 j := fun j hj => by rw [d3 j hj, c99]
  unfold pDayM
  rw [hgl]
  refine ⟨⟨fun a ha => ?_, ?_, ?_⟩, fun a h1 h2 => ?_, fun a ha => ?_, fun j hj => ?_, fun j j1 j2 => ?_⟩
  · obtain ⟨p1, p2, p3, p4, p5⟩ := edy.1 a ha
    refine ⟨?_, ?_, ?_, ?_, ?_⟩
    · show σ5 99 a = hmin 9999 (_ - _ + _)
      rw [up a (by omega), (eF a ha).1, eR a ha, eG a ha]
      rw [show σ2 99 a = dF (dyM σ2 99) a from rfl, p1]
      rfl
    · show σ5 99 (7 + a) = _
      rw [up _ (by omega), d4 _ (by omega)]; exact p2
    · show σ5 99 (14 + a) = _
      rw [up _ (by omega), d4 _ (by omega)]; exact p3
    · show σ5 99 (21 + a) = _
      rw [up _ (by omega), d4 _ (by omega)]; exact p4
    · show dPx (σ5 99 (28 + a)) = _
      rw [up _ (by omega), d4 _ (by omega)]; exact p5
  · show σ5 99 36 = _ + 1
    rw [up36, d4 36 (by omega)]
    exact congrArg (· + 1) edy.2.1
  · show σ5 99 35 = _
    rw [up _ (by omega), d4 35 (by omega)]; exact edy.2.2
  · rw [up a (by omega), up (7 + a) (by omega), up (14 + a) (by omega), up (21 + a) (by omega), d4 _ (by omega), d4 _ (by omega), d4 _ (by omega), d4 _ (by omega)]
    exact hz2 a h1 h2
  · rw [up a (by omega), up (14 + a) (by omega), d4 (14 + a) (by omega)]
    exact ⟨Int32.le_trans (e2f a ha).2.1 (eF a ha).2.1, (eF a ha).2.2, (e2f a ha).2.1, (eF a ha).2.1⟩
  · rw [up64, d1 64 (by decide), c2 j hj, a5 64 (by decide), a2 j hj]
  · rw [up j (by omega), d4 j (by omega), a8 j (fun c hc => ⟨by omega, by omega, by omega⟩), b99]
end S45

