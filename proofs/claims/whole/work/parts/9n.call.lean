/-! a call of both: the same answer, and the relation is kept -/
def cOK (mc md : hPo → hMe) (as : List Value) : Prop := ∀ (G : hGl) (x y : Option Nat) (σ : hS) (τ : hT), Rel σ τ → ∃ PC : hPo, hCal G (mc PC) (.ref (hgA G 0) :: as) shp (rr 38 51 x y) σ τ ∧ ∀ v r1 σ1 τ1, PC v r1 σ1 τ1 → ∃ A, v = some (.int A) ∧ r1 = rr 38 51 x y ∧ ∃ PD : hPo, hCal G (md PD) (.ref (hgA G 64) :: as) shp (rr 38 51 x y) σ1 τ1 ∧ ∀ v' r2 σ2 τ2, PD v' r2 σ2 τ2 → v' = some (.int A) ∧ r2 = rr 38 51 x y ∧ Rel σ2 τ2
theorem k64_5 {σ σ' : hS} (k : k64 σ σ') : ∀ j, j ∈ [2, 17, 18, 57, 61] → σ' 64 j = σ 64 j := by
  intro j hj
  exact k j (by rintro rfl; revert hj; decide) (by rintro rfl; revert hj; decide) (by rintro rfl; revert hj; decide)
theorem q_ok {mc md : hPo → hMe} {as : List Value} (H : ∀ (G : hGl) (x y : Option Nat) (σ : hS) (τ : hT) h sz L LF pr, R2 σ σ τ h sz L LF pr → ∃ A, hCal G (mc (hQx xQ (some (.int A)) (rr 38 51 x y) σ τ)) (.ref (hgA G 0) :: as) shp (rr 38 51 x y) σ τ ∧ ∀ σ1, R2 σ σ1 τ h sz L LF pr → hCal G (md (hRq A x y σ1 τ)) (.ref (hgA G 64) :: as) shp (rr 38 51 x y) σ1 τ) : cOK mc md as := by
  intro G x y σ τ ⟨h, sz, L, LF, pr, hR⟩
  obtain ⟨A, h1, h2⟩ := H G x y σ τ h sz L LF pr hR
  refine ⟨_, h1, ?_⟩
  rintro v r1 σ1 τ1 ⟨rfl, rfl, rfl, o⟩
  have hR1 : R2 σ σ1 τ h sz L LF pr := R2_r hR (fun c hc => o c (by revert c; decide)) (fun j _ => by rw [o 64 (by decide)]) rfl
  refine ⟨A, rfl, rfl, _, h2 σ1 hR1, ?_⟩
  rintro _ _ σ2 _ ⟨rfl, rfl, rfl, o2, k2⟩
  refine ⟨rfl, rfl, h, sz, L, LF, pr, ?_⟩
  have hR2 := R2_r hR1 (fun c hc => o2 c (by revert c; decide)) (k64_5 k2) rfl
  exact R2_c hR2 (fun c hc => (o2 c (by revert c; decide)).trans (o c (by revert c; decide)))
theorem e_ok {mc md : hPo → hMe} {as : List Value} (H : ∀ (G : hGl) (x y : Option Nat) (σ : hS) (τ : hT) h sz L LF pr, R2 σ σ τ h sz L LF pr → ∃ A, hCal G (mc (hEq (some (.int A)) (rr 38 51 x y) σ τ)) (.ref (hgA G 0) :: as) shp (rr 38 51 x y) σ τ ∧ hCal G (md (hEq (some (.int A)) (rr 38 51 x y) σ τ)) (.ref (hgA G 64) :: as) shp (rr 38 51 x y) σ τ) : cOK mc md as := by
  intro G x y σ τ ⟨h, sz, L, LF, pr, hR⟩
  obtain ⟨A, h1, h2⟩ := H G x y σ τ h sz L LF pr hR
  refine ⟨_, h1, ?_⟩
  rintro v r1 σ1 τ1 ⟨rfl, rfl, rfl, rfl⟩
  refine ⟨A, rfl, rfl, _, h2, ?_⟩
  rintro _ _ σ2 _ ⟨rfl, rfl, rfl, rfl⟩
  exact ⟨rfl, rfl, h, sz, L, LF, pr, hR⟩
theorem m_ok {mc md : hPo → hMe} {as : List Value} (H : ∀ (G : hGl) (x y : Option Nat) (σ : hS) (τ : hT) h sz L LF pr, R2 σ σ τ h sz L LF pr → ∃ A, hCal G (mc (hEq (some (.int A)) (rr 38 51 x y) σ τ)) (.ref (hgA G 0) :: as) shp (rr 38 51 x y) σ τ ∧ hCal G (md (hRq A x y σ τ)) (.ref (hgA G 64) :: as) shp (rr 38 51 x y) σ τ) : cOK mc md as := by
  intro G x y σ τ ⟨h, sz, L, LF, pr, hR⟩
  obtain ⟨A, h1, h2⟩ := H G x y σ τ h sz L LF pr hR
  refine ⟨_, h1, ?_⟩
  rintro v r1 σ1 τ1 ⟨rfl, rfl, rfl, rfl⟩
  refine ⟨A, rfl, rfl, _, h2, ?_⟩
  rintro _ _ σ2 _ ⟨rfl, rfl, rfl, o2, k2⟩
  refine ⟨rfl, rfl, h, sz, L, LF, pr, ?_⟩
  have hR2 := R2_r hR (fun c hc => o2 c (by revert c; decide)) (k64_5 k2) rfl
  exact R2_c hR2 (fun c hc => o2 c (by revert c; decide))
section S9n
variable {σ σ1 : hS} {τ : hT} {h sz L : Nat} {LF : Nat → hF → Int32} {pr : Nat → Option Nat}
theorem r_c (hR : R2 σ σ1 τ h sz L LF pr) : okC σ h sz := hR.1.1
theorem r_7 (hR : R2 σ σ1 τ h sz L LF pr) : h ≤ 7 := hR.1.1.2.1
theorem r_5 (hR : R2 σ σ1 τ h sz L LF pr) : σ 11 5 = nI h := hR.2.2.2.1.2.1
theorem r_R (hR : R2 σ σ1 τ h sz L LF pr) : okR σ1 L h LF := ⟨hR.1.2.1, hR.2.2.2.1.1.1, hR.2.2.2.1.1.2.1⟩
theorem r_xm (hR : R2 σ σ1 τ h sz L LF pr) : okXM σ1 98 h pr := ⟨hR.2.2.2.1.1.2.2.2.1, hR.2.2.2.1.1.2.2.2.2⟩
theorem r_x (hR : R2 σ σ1 τ h sz L LF pr) : okX σ h pr := fun a ha => ⟨(hR.2.2.2.1.2.2.2.2 a ha).2.2.2.2, fun j q => ((r_xm hR).1 a j ha q).1⟩
theorem r_t (hR : R2 σ σ1 τ h sz L LF pr) : tEq (twC σ h sz) (twM σ1 L h LF) := hR.1.2.2.1
theorem r_sd (hR : R2 σ σ1 τ h sz L LF pr) : σ 38 12 = σ1 85 L := hR.1.2.2.2.2.1
theorem r_o (hR : R2 σ σ1 τ h sz L LF pr) : tO (twC σ h sz) = tO (twM σ1 L h LF) := (r_t hR).2.2.1
theorem dPx_oM {p : Option Nat} (hp : ∀ j, p = some j → j < 7) : dPx (oM p) = oN p := by
  rcases p with _ | j
  · rfl
  · have := hp j rfl
    unfold dPx
    rw [if_neg (fun q => ?_)]
    · rfl
    · rcases (show j = 0 ∨ j = 1 ∨ j = 2 ∨ j = 3 ∨ j = 4 ∨ j = 5 ∨ j = 6 by omega) with rfl | rfl | rfl | rfl | rfl | rfl | rfl <;> revert q <;> decide
theorem r_d (hR : R2 σ σ1 τ h sz L LF pr) : dEq h (dyC σ 11) (dyM σ1 98) := by
  have h7 := r_7 hR
  have hx := r_xm hR
  obtain ⟨c1, c2, c3, c4, c5⟩ := hR.2.2.2.1
  refine ⟨fun a ha => ?_, c3, c4⟩
  obtain ⟨q1, q2, q3, q4, q5⟩ := c5 a ha
  refine ⟨q1, q2, q3, q4, ?_⟩
  show σ 16 a = dPx (σ1 98 (28 + a))
  rw [hx.2 a ha, dPx_oM (fun j q => by have := (hx.1 a j ha q).1; omega)]
  exact q5
theorem r_s (hR : R2 σ σ1 τ h sz L LF pr) : hsum (σ 12) h = hsum (dF (dyM σ1 98)) h := hsum_congr h (fun a ha => ((r_d hR).1 a ha).1)
theorem r_v (hR : R2 σ σ1 τ h sz L LF pr) : ∀ i, i < h → fVotes (twC σ h sz) (dyC σ 11) (hsum (σ 12) h) i = fVotes (twM σ1 L h LF) (dyM σ1 98) (hsum (dF (dyM σ1 98)) h) i := fun i hi => by
  rw [r_s hR]
  exact fVotes_congr (r_t hR) (r_d hR) hi
theorem r_pr (hR : R2 σ σ1 τ h sz L LF pr) : fPrice (twC σ h sz) (dyC σ 11) = fPrice (twM σ1 L h LF) (dyM σ1 98) := fPrice_congr (r_t hR) (r_d hR)
theorem fGl_eq {t u : hTw} {sd sd' : Int32} (ho : tO t = tO u) (hs : sd = sd') : fGl t sd = fGl u sd' := by
  funext d; unfold fGl; rw [ho, hs]
theorem r_dy (hR : R2 σ σ1 τ h sz L LF pr) (n : Nat) : dEq h (fDays (twC σ h sz) (fGl (twC σ h sz) (σ 38 12)) n (dyC σ 11)) (fDays (twM σ1 L h LF) (fGl (twM σ1 L h LF) (σ1 85 L)) n (dyM σ1 98)) := by
  rw [fGl_eq (r_o hR) (r_sd hR)]
  exact fDays_congr (r_t hR) n (r_d hR)
theorem r_p (hR : R2 σ σ1 τ h sz L LF pr) : ∃ hd fe, okP σ h hd fe ∧ okPM σ1 L h hd fe := by
  obtain ⟨hd, fe, u, hh⟩ := hR.2.2.1
  have hT := hR.1.2.1
  exact ⟨hd, fe, ⟨hR.1.1.1, r_7 hR, fun a ha => ⟨(hh a ha).1.1, (hh a ha).1.2.2, (hh a ha).2.1.1, (hh a ha).2.1.2.2⟩⟩, hT.1, hT.2.1, hT.2.2.1, r_7 hR, fun a ha => ⟨(hh a ha).1.2.1, (hh a ha).1.2.2, (hh a ha).2.1.2.1, (hh a ha).2.1.2.2⟩⟩
theorem hsel_congr {h : Nat} {a d : Int32} {f g : Nat → Int32} (hh : h ≤ 7) (e : ∀ i, i < h → f i = g i) : hsel h a d f = hsel h a d g := by
  unfold hsel
  by_cases c : isH h a = true
  · obtain ⟨i, hi, rfl⟩ := isH_ix hh c
    rw [if_pos c, if_pos c]
    exact e _ (by rw [nI_clamp (by omega)]; exact hi)
  · rw [if_neg c, if_neg c]
theorem isH_cl {h : Nat} {a : Int32} (hh : h ≤ 7) (c : isH h a = true) : a.toNatClampNeg < h := by
  obtain ⟨i, hi, rfl⟩ := isH_ix hh c
  rw [nI_clamp (by omega)]; exact hi
theorem inI_01 {w : Int32} : inI 0 1 w = true ↔ w = 0 ∨ w = 1 := by
  constructor
  · intro q
    obtain ⟨i, hi, rfl⟩ := inI_ix (n := 1) (by decide) q
    rcases (show i = 0 ∨ i = 1 by omega) with rfl | rfl
    · exact Or.inl rfl
    · exact Or.inr rfl
  · rintro (rfl | rfl) <;> decide
end S9n
theorem d_eq (md : hPo → hMe) {G : hGl} {x y : Option Nat} {σ1 : hS} {τ : hT} {as : List Value} {r : hR} {A B : Int32} (e : hCal G (md (hRq B x y σ1 τ)) as shp r σ1 τ) (h : A = B) : hCal G (md (hRq A x y σ1 τ)) as shp r σ1 τ := h ▸ e
theorem q_tells (a w : Int32) : cOK m_X11_tells m_X12_tells [.int a, .int w] := q_ok fun G x y σ τ h sz L LF pr hR => ⟨_, c_tells (r_c hR) (r_5 hR), fun σ1 hR1 => d_eq m_X12_tells (d_tells (r_R hR1)) (by
  rw [r_pr hR1]
  by_cases c : w = 0
  · rw [if_pos c, if_pos c]
  · rw [if_neg c, if_neg c]
    refine hsel_congr (r_7 hR) (fun i hi => ?_)
    rw [r_s hR1, fEats_congr (r_t hR1) (r_d hR1) hi, fRots_congr (r_t hR1) (r_d hR1) hi, fGlut_congr (r_t hR1) (r_d hR1) hi])⟩
theorem q_house (a w : Int32) : cOK m_X11_house m_X12_house [.int a, .int w] := q_ok fun G x y σ τ h sz L LF pr hR => ⟨_, c_house (r_c hR) (r_5 hR) (r_x hR) rfl, fun σ1 hR1 => by
  have e := d_house (G := G) (τ := τ) (x := x) (y := y) (a := a) (w := w) (r_R hR1) rfl (r_xm hR1)
  obtain ⟨hd, fe, u, hh⟩ := hR1.2.2.1
  obtain ⟨c1, c2, c3, c4, c5⟩ := hR1.2.2.2.1
  rw [← hsel_congr (r_7 hR) (fun i hi => by
    obtain ⟨q1, q2, q3, q4, q5⟩ := c5 i hi
    have hp := (r_xm hR1).2 i hi
    have hlt : ∀ j, pr i = some j → j < 7 := fun j q => by have := ((r_xm hR1).1 i j hi q).1; have := r_7 hR; omega
    have e6 : (if ¬ σ 16 i = -1 then σ 16 i else -2) = σ1 98 (28 + i) := by
      rw [q5, hp]
      rcases hq : pr i with _ | j
      · rfl
      · have := hlt j hq
        rw [if_pos (fun q => by cases (oN_lt (p := some j) (fun k hk => by cases hk; exact this)).mp q)]
        rfl
    rw [← q1, ← q2, ← q3, ← q4, ← e6, (hh i hi).1.2.1, (hh i hi).2.1.2.1, (hh i hi).2.2.2.1, ← (hh i hi).1.1, ← (hh i hi).2.1.1, ← (hh i hi).2.2.1, ← r_v hR1 i hi, had_congr h (fun a ha => (r_v hR1 a ha).symm) i])] at e
  exact e⟩

