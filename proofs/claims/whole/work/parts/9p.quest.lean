theorem if_cg {p q : Prop} [Decidable p] [Decidable q] {α : Type} {a b c : α} (hpq : p ↔ q) (h : p → a = b) : (if p then a else c) = if q then b else c := by
  by_cases x : p
  · rw [if_pos x, if_pos (hpq.mp x), h x]
  · rw [if_neg x, if_neg (fun y => x (hpq.mpr y))]
theorem q_priceIn (n : Int32) : cOK m_X11_priceIn m_X12_priceIn [.int n] := q_ok fun G x y σ τ h sz L LF pr hR => ⟨_, c_priceIn (r_c hR) (r_5 hR), fun σ1 hR1 => d_eq m_X12_priceIn (d_priceIn (r_R hR1)) (if_cg Iff.rfl (fun _ => by
  unfold fDear
  exact fPrice_congr (r_t hR1) (r_dy hR1 _)))⟩
theorem q_allIn (n : Int32) : cOK m_X11_allIn m_X12_allIn [.int n] := q_ok fun G x y σ τ h sz L LF pr hR => ⟨_, c_allIn (r_c hR) (r_5 hR), fun σ1 hR1 => d_eq m_X12_allIn (d_allIn (r_R hR1)) (if_cg Iff.rfl (fun _ => hsum_congr h (fun a ha => ((r_dy hR1 _).1 a ha).1)))⟩
theorem q_then (a n w : Int32) : cOK m_X11_then m_X12_then [.int a, .int n, .int w] := q_ok fun G x y σ τ h sz L LF pr hR => ⟨_, c_then (r_c hR) (r_5 hR), fun σ1 hR1 => d_eq m_X12_then (d_then (r_R hR1)) (if_cg Iff.rfl (fun q => by
  have ha := isH_cl (r_7 hR) q.1
  obtain ⟨e1, e2, e3, e4, e5⟩ := (r_dy hR1 n.toNatClampNeg).1 _ ha
  rw [e1, e3, e4, (hR1.2.2.2.1.2.2.2.2 _ ha).2.2.2.1]))⟩
theorem q_poorest (n w : Int32) : cOK m_X11_poorest m_X12_poorest [.int n, .int w] := q_ok fun G x y σ τ h sz L LF pr hR => ⟨_, c_poorest (r_c hR) (r_5 hR), fun σ1 hR1 => d_eq m_X12_poorest (d_poorest (r_R hR1)) (if_cg Iff.rfl (fun q => by
  by_cases c : h = 0
  · rw [if_pos c, if_pos c]
  · have e := fun a ha => ((r_dy hR1 n.toNatClampNeg).1 a ha).1
    rw [if_neg c, if_neg c, amin_congr h e, e _ (by have := amin_le (dF (fDays (twM σ1 L h LF) (fGl (twM σ1 L h LF) (σ1 85 L)) n.toNatClampNeg (dyM σ1 98))) h; omega)]))⟩
theorem q_deals (w : Int32) : cOK m_X11_deals m_X12_deals [.int w] := q_ok fun G x y σ τ h sz L LF pr hR => ⟨_, c_deals (r_c hR) (r_5 hR) rfl, fun σ1 hR1 => d_eq m_X12_deals (d_deals (r_R hR1) rfl) (if_cg Iff.rfl (fun q => by
  have e : fDl (fDealA (σ 12) (σ 13) (σ 41) (fPrice (twC σ h sz) (dyC σ 11))) h h = fDl (fDealA (dF (dyM σ1 98)) (dC (dyM σ1 98)) (tU (twM σ1 L h LF)) (fPrice (twM σ1 L h LF) (dyM σ1 98))) h h := by
    refine fDl_congr h (fun g t hg ht => ?_)
    obtain ⟨a1, a2, -⟩ := (r_d hR1).1 g hg
    obtain ⟨b1, b2, -⟩ := (r_d hR1).1 t ht
    have u1 := ((r_t hR1).2.1 g hg).1
    have u2 := ((r_t hR1).2.1 t ht).1
    unfold fDealA
    rw [r_pr hR1, ← a1, ← a2, ← b2, ← u1, ← u2]
    rfl
  rw [e]))⟩
theorem q_ruin (a n s : Int32) : cOK m_X11_ruin m_X12_ruin [.int a, .int n, .int s] := q_ok fun G x y σ τ h sz L LF pr hR => ⟨_, c_ruin (r_c hR) (r_5 hR), fun σ1 hR1 => d_eq m_X12_ruin (d_ruin (r_R hR1)) (if_cg Iff.rfl (fun q => by
  have ha := isH_cl (r_7 hR) q.1
  have e : (fun i => decide (dF (fDays (twC σ h sz) (fGl (twC σ h sz) (σ 38 12 + nI i)) n.toNatClampNeg (dyC σ 11)) a.toNatClampNeg = 0)) = (fun i => decide (dF (fDays (twM σ1 L h LF) (fGl (twM σ1 L h LF) (σ1 85 L + nI i)) n.toNatClampNeg (dyM σ1 98)) a.toNatClampNeg = 0)) := by
    funext i
    rw [fGl_eq (r_o hR1) (show σ 38 12 + nI i = σ1 85 L + nI i by rw [r_sd hR1]), ((fDays_congr (r_t hR1) n.toNatClampNeg (r_d hR1)).1 _ ha).1]
  rw [e]))⟩
theorem q_salting (a n : Int32) : cOK m_X11_salting m_X12_salting [.int a, .int n] := q_ok fun G x y σ τ h sz L LF pr hR => ⟨_, c_salting (r_c hR) (r_5 hR) (fun i hi => by
    obtain ⟨c1, c2, c3, c4, c5⟩ := hR.2.2.2.1
    obtain ⟨q1, q2, q3, q4, q5⟩ := c5 i hi
    obtain ⟨n1, n2, n3, n4⟩ := c1.2.1 i hi
    rw [q1, q3, clamp_nI n1, clamp_nI n3, nI_subN ((nI_leI (by have := clamp_le (n := 9999) n1 n2 (by decide); have := clamp_le (n := 9999) n3 (Int32.le_trans n4 n2) (by decide); omega) (by have := clamp_le (n := 9999) n1 n2 (by decide); omega)).mp (by rw [← clamp_nI n1, ← clamp_nI n3]; exact n4))]
    exact ⟨_, rfl, by have := clamp_le (n := 9999) n1 n2 (by decide); omega⟩), fun σ1 hR1 => d_eq m_X12_salting (d_salting (r_R hR1)) (if_cg (and_congr_right fun _ => in_124.symm) (fun q => by
  have ha := isH_cl (r_7 hR) q.1
  obtain ⟨q1, q2, q3, q4, q5⟩ := hR1.2.2.2.1.2.2.2.2 _ ha
  rw [q1, q3]
  refine fLst_congr (fun i => ?_) _ _
  rw [fGl_eq (r_o hR1) (r_sd hR1), ((fDays_congr (r_t hR1) n.toNatClampNeg (dSalt_congr (r_d hR1))).1 _ ha).1, ((fDays_congr (r_t hR1) n.toNatClampNeg (dSalt_congr (r_d hR1))).1 _ ha).1]))⟩
theorem q_dearest (n w : Int32) : cOK m_X11_dearest m_X12_dearest [.int n, .int w] := q_ok fun G x y σ τ h sz L LF pr hR => ⟨_, c_dearest (r_c hR) (r_5 hR), fun σ1 hR1 => d_eq m_X12_dearest (d_dearest (r_R hR1)) (if_cg (and_congr_right fun _ => inI_01.symm) (fun q => by
  have e : ∀ i, fDear (twC σ h sz) (σ 38 12) (dyC σ 11) i = fDear (twM σ1 L h LF) (σ1 85 L) (dyM σ1 98) i := fun i => fPrice_congr (r_t hR1) (r_dy hR1 i)
  rw [fBest_congr (n.toNatClampNeg + 1) (fun i _ => e i), fBest_d0 (d1 := 0)]
  unfold fDear fPrice
  obtain ⟨z, z1, z2, z3⟩ := hcl_1 (v := tL (twM σ1 L h LF) 0 (upd (vAll (hsum (dF (fDays (twM σ1 L h LF) (fGl (twM σ1 L h LF) (σ1 85 L)) 0 (dyM σ1 98))) (tH (twM σ1 L h LF))) (dD (fDays (twM σ1 L h LF) (fGl (twM σ1 L h LF) (σ1 85 L)) 0 (dyM σ1 98)))) 7 (hsum (dA (fDays (twM σ1 L h LF) (fGl (twM σ1 L h LF) (σ1 85 L)) 0 (dyM σ1 98))) (tH (twM σ1 L h LF)))))
  rw [z3]
  exact Int32.lt_of_lt_of_le (by decide) (nI_pos' (by omega))))⟩
theorem q_sell (a n w : Int32) : cOK m_X11_sell m_X12_sell [.int a, .int n, .int w] := q_ok fun G x y σ τ h sz L LF pr hR => ⟨_, c_sell (r_c hR) (r_5 hR), fun σ1 hR1 => d_eq m_X12_sell (d_sell (r_R hR1)) (if_cg (and_congr_right fun _ => and_congr_right fun _ => inI_01.symm) (fun q => by
  have ha := isH_cl (r_7 hR) q.1
  have e : ∀ i, fSale (twC σ h sz) (σ 38 12) (dyC σ 11) a.toNatClampNeg i = fSale (twM σ1 L h LF) (σ1 85 L) (dyM σ1 98) a.toNatClampNeg i := fun i => by
    unfold fSale
    rw [fPrice_congr (r_t hR1) (r_dy hR1 i), ((r_dy hR1 i).1 _ ha).1]
  rw [fBest_congr (n.toNatClampNeg + 1) (fun i _ => e i), fBest_d0 (d1 := 0)]
  show -1 < σ1 98 a.toNatClampNeg * fPrice (twM σ1 L h LF) (dyM σ1 98)
  obtain ⟨n1, n2, n3, n4⟩ := hR1.2.2.2.1.1.2.1 _ ha
  unfold fPrice
  obtain ⟨z, z1, z2, z3⟩ := hcl_1 (v := tL (twM σ1 L h LF) 0 (upd (vAll (hsum (dF (dyM σ1 98)) (tH (twM σ1 L h LF))) (dD (dyM σ1 98))) 7 (hsum (dA (dyM σ1 98)) (tH (twM σ1 L h LF)))))
  rw [z3, clamp_nI n1, pk_mul]
  have h9 := clamp_le (n := 9999) n1 n2 (by decide)
  have : (σ1 98 a.toNatClampNeg).toNatClampNeg * z ≤ 9999 * 99 := Nat.mul_le_mul h9 z2
  exact Int32.lt_of_lt_of_le (by decide) (nI_pos' (by omega))))⟩
theorem q_takeover (a w : Int32) : cOK m_X11_takeover m_X12_takeover [.int a, .int w] := q_ok fun G x y σ τ h sz L LF pr hR => ⟨_, c_takeover (r_c hR) (r_5 hR), fun σ1 hR1 => d_eq m_X12_takeover (d_takeover (r_R hR1) (fun a ha => (hR1.2.2.2.1.1.2.2.1 a ha).1) rfl rfl) (if_cg Iff.rfl (fun q => by
  have ha := isH_cl (r_7 hR) q.1
  obtain ⟨q1, q2, q3, q4, q5⟩ := hR1.2.2.2.1.2.2.2.2 _ ha
  have f1 : ∀ a, a < h → σ 12 a = dF (dyM σ1 98) a := fun a ha => ((r_d hR1).1 a ha).1
  rw [r_s hR1, q2, f1 _ ha, r_pr hR1, fSm_ones (r_7 hR), fSm_ones (r_7 hR), r_s hR1, fMaj_congr (r_7 hR) f1 8 _ 0 (Nat.pow_lt_pow_right (by decide) ha)]))⟩
theorem q_power (a bl : Int32) : cOK m_X11_power m_X12_power [.int a, .int bl] := q_ok fun G x y σ τ h sz L LF pr hR => ⟨_, c_power (T := fun i => nI (fTurn (fHad (fVotes (twC σ h sz) (dyC σ 11) (hsum (σ 12) h)) pr h) (hsum (fVotes (twC σ h sz) (dyC σ 11) (hsum (σ 12) h)) h) i (2 ^ h))) (r_c hR) (r_5 hR) (r_x hR) rfl (fun f hf i hi => by
    rw [fTurn_congr (r_7 hR) hi (fun a ha => hf a (by have := r_7 hR; omega)) (2 ^ h) (Nat.le_refl _)]), fun σ1 hR1 => d_power (r_R hR1) rfl (r_xm hR1) (fun i hi => by
    rw [hsum_congr h (r_v hR1), fTurn_congr (r_7 hR) hi (fun a _ => had_congr h (r_v hR1) a) (2 ^ h) (Nat.le_refl _)])⟩
theorem q_strongest (w : Int32) : cOK m_X11_strongest m_X12_strongest [.int w] := q_ok fun G x y σ τ h sz L LF pr hR => ⟨_, c_strongest (T := fun i => nI (fTurn (fHad (fVotes (twC σ h sz) (dyC σ 11) (hsum (σ 12) h)) pr h) (hsum (fVotes (twC σ h sz) (dyC σ 11) (hsum (σ 12) h)) h) i (2 ^ h))) (r_c hR) (r_5 hR) (r_x hR) rfl (fun f hf i hi => by
    rw [fTurn_congr (r_7 hR) hi (fun a ha => hf a (by have := r_7 hR; omega)) (2 ^ h) (Nat.le_refl _)]) (fun f g q => amax_congr h q), fun σ1 hR1 => d_strongest (r_R hR1) rfl (r_xm hR1) (fun i hi => by
    rw [hsum_congr h (r_v hR1), fTurn_congr (r_7 hR) hi (fun a _ => had_congr h (r_v hR1) a) (2 ^ h) (Nat.le_refl _)])⟩
theorem q_allies (a : Int32) : cOK m_X11_allies m_X12_allies [.int a] := q_ok fun G x y σ τ h sz L LF pr hR => ⟨_, c_allies (R := fun i => fMaj (fHad (fVotes (twC σ h sz) (dyC σ 11) (hsum (σ 12) h)) pr h) h (hsum (fVotes (twC σ h sz) (dyC σ 11) (hsum (σ 12) h)) h) 8 (2 ^ i) 0) (r_c hR) (r_5 hR) (r_x hR) rfl (fun f hf i hi => by
    have hf' : ∀ a, a < h → f a = fHad (fVotes (twC σ h sz) (dyC σ 11) (hsum (σ 12) h)) pr h a := fun a ha => hf a (by have := r_7 hR; omega)
    rw [fSm_ones (r_7 hR), hsum_congr h hf', hsum_had (r_xm hR).1 h (Nat.le_refl _), fMaj_congr (r_7 hR) hf' 8 _ 0 (Nat.pow_lt_pow_right (by decide) hi)]), fun σ1 hR1 => d_allies (r_R hR1) rfl (r_xm hR1) (fun i hi => by
    rw [hsum_congr h (r_v hR1), fMaj_congr (r_7 hR) (fun a _ => had_congr h (r_v hR1) a) 8 _ 0 (Nat.pow_lt_pow_right (by decide) hi)])⟩

