theorem q_motion (m w : Int32) : cOK m_X11_motion m_X12_motion [.int m, .int w] := q_ok fun G x y σ τ h sz L LF pr hR => by
  obtain ⟨mo, sp, m1, m2, m3, m4⟩ := hR.2.1
  have h7 := r_7 hR
  have hp7 : 2 ^ h ≤ 2 ^ 7 := Nat.pow_le_pow_right (by decide) h7
  refine ⟨_, c_motion (C := fun i => fSm (fHad (fVotes (twC σ h sz) (dyC σ 11) (hsum (σ 12) h)) pr h) (sp i) 7) (R := fun i => fMaj (fHad (fVotes (twC σ h sz) (dyC σ 11) (hsum (σ 12) h)) pr h) h (hsum (fVotes (twC σ h sz) (dyC σ 11) (hsum (σ 12) h)) h) 8 (sp i) 0) (r_c hR) (r_5 hR) (r_x hR) rfl m1 m3 (fun i hi => ⟨(m4 i hi).1, by have := (m4 i hi).2.2; omega⟩) (fun f hf i hi => (fSm_congr 7 (fun a ha => hf a ha)).symm) (fun f hf i hi => ?_), fun σ1 hR1 => ?_⟩
  · have hf' : ∀ a, a < h → f a = fHad (fVotes (twC σ h sz) (dyC σ 11) (hsum (σ 12) h)) pr h a := fun a ha => hf a (by omega)
    rw [fSm_ones h7, hsum_congr h hf', hsum_had (r_xm hR).1 h (Nat.le_refl _), fMaj_congr h7 hf' 8 _ 0 (m4 i hi).2.2]
  · obtain ⟨mo', sp', n1, n2, n3, n4⟩ := hR1.2.1
    have em : mo' = mo := (nI_eq (by omega) (by omega)).mp (n1.symm.trans m1)
    subst em
    have es : ∀ i, i < mo' → sp' i = sp i := fun i hi => (nI_eq (by have := (n4 i hi).2.2; omega) (by have := (m4 i hi).2.2; omega)).mp ((n4 i hi).1.symm.trans (m4 i hi).1)
    have ev := r_v hR1
    have eh := fun a => had_congr (pr := pr) h ev a
    refine d_eq m_X12_motion (d_motion (C := fun i => fSm (fHad (fVotes (twC σ h sz) (dyC σ 11) (hsum (σ 12) h)) pr h) (sp i) 7) (R := fun i => fMaj (fHad (fVotes (twC σ h sz) (dyC σ 11) (hsum (σ 12) h)) pr h) h (hsum (fVotes (twC σ h sz) (dyC σ 11) (hsum (σ 12) h)) h) 8 (sp i) 0) (sp := sp) (r_R hR1) rfl (r_xm hR1) n2 n3 (fun i hi => ⟨by rw [← es i hi]; exact (n4 i hi).2.1, (m4 i hi).2.2⟩) (fun i hi => fSm_congr 7 (fun a _ => eh a)) (fun i hi => ?_) (fun i hi => ?_)) ?_
    · obtain ⟨c, c1, c2⟩ := fSm_rng (m := sp i) (had_rng (pr := pr) (V := fVotes (twC σ h sz) (dyC σ 11) (hsum (σ 12) h)) (fun i => v_rng i) h) 7
      obtain ⟨t, t1, t2⟩ := hsum_rng (f := fVotes (twM σ1 L h LF) (dyM σ1 98) (hsum (dF (dyM σ1 98)) h)) (B := 999) (fun i => v_rng i) h
      rw [c2, t2]
      have hc : c ≤ 7 * (7 * 999) := Nat.le_trans c1 (Nat.mul_le_mul_left _ (Nat.mul_le_mul_right _ h7))
      have ht : t ≤ 7 * 999 := Nat.le_trans t1 (Nat.mul_le_mul_right _ h7)
      exact half_iff (by omega) (by omega)
    · rw [hsum_congr h ev, fMaj_congr h7 (fun a _ => eh a) 8 _ 0 (m4 i hi).2.2]
    · rw [hsum_congr h ev]
theorem q_share (a : Int32) : cOK m_X11_share m_X12_share [.int a] := m_ok fun G x y σ τ h sz L LF pr hR => by
  obtain ⟨hd, fe, u, hh⟩ := hR.2.2.1
  refine ⟨_, c_share (r_c hR).1 (r_7 hR) (r_5 hR), d_eq m_X12_share (d_share (u := u) (r_R hR) (fun a ha => (hh a ha).2.2.2)) ?_⟩
  refine hsel_congr (r_7 hR) (fun i hi => ?_)
  have eu := fun a ha => ((r_t hR).2.1 a ha).1
  have es : hsum (σ 41) h = hsum (tU (twM σ L h LF)) h := hsum_congr h eu
  have ei : σ 41 i = tU (twM σ L h LF) i := eu i hi
  rw [es, r_s hR, ei]
theorem q_count (w : Int32) : cOK m_X11_count m_X12_count [.int w] := q_ok fun G x y σ τ h sz L LF pr hR => ⟨_, c_count (r_c hR) (r_5 hR) (r_x hR) rfl, fun σ1 hR1 => d_eq m_X12_count (d_count (r_R hR1) rfl (r_xm hR1)) (by
  obtain ⟨mo, sp, m1, m2, -⟩ := hR1.2.1
  obtain ⟨o, nn, k1, k2, -⟩ := hR1.2.2.2.2.1
  have hl := hR1.2.2.2.2.2.1
  obtain ⟨td, th, ta, t1, t2, -⟩ := hR1.2.2.2.2.2.2.1
  obtain ⟨n, p1, p2, -⟩ := hR1.2.2.2.2.2.2.2.1
  obtain ⟨c1, c2, c3, c4, c5⟩ := hR1.2.2.2.1
  rw [hsum_congr h (r_v hR1), (r_c hR).1, hR1.1.2.2.2.1, m1, m2, c3, c4, r_s hR1, p1, p2, k1.2.2.1, k2, t1, t2, fGl_eq (r_o hR1) (r_sd hR1), fHld_congr 3 (fun s hs => (hl s hs).1)]
  have e5 : hsum (σ 13) h = hsum (dC (dyM σ1 98)) h := hsum_congr h (fun a ha => ((r_d hR1).1 a ha).2.1)
  have e6 : hsum (σ 15) h = hsum (dA (dyM σ1 98)) h := hsum_congr h (fun a ha => ((r_d hR1).1 a ha).2.2.2.1)
  have e14 : hsum (σ 14) h = hsum (dS (dyM σ1 98)) h := hsum_congr h (fun a ha => ((r_d hR1).1 a ha).2.2.1)
  rw [e5, e6, e14])⟩
theorem q_panic (a : Int32) : cOK m_X11_panic m_X12_panic [.int a] := e_ok fun G x y σ τ h sz L LF pr hR => by
  obtain ⟨hd, fe, h1, h2⟩ := r_p hR
  exact ⟨_, c_panic h1, d_panic h2⟩
theorem q_quiet (a : Int32) : cOK m_X11_quiet m_X12_quiet [.int a] := e_ok fun G x y σ τ h sz L LF pr hR => by
  obtain ⟨hd, fe, h1, h2⟩ := r_p hR
  exact ⟨_, c_quiet h1, d_quiet h2⟩
theorem q_spark (w : Int32) : cOK m_X11_spark m_X12_spark [.int w] := e_ok fun G x y σ τ h sz L LF pr hR => by
  obtain ⟨hd, fe, h1, h2⟩ := r_p hR
  exact ⟨_, c_spark h1, d_spark h2⟩
theorem q_calm (a o i : Int32) : cOK m_X11_calm m_X12_calm [.int a, .int o, .int i] := e_ok fun G x y σ τ h sz L LF pr hR => by
  obtain ⟨hd, fe, h1, h2⟩ := r_p hR
  exact ⟨_, c_calm h1, d_calm h2⟩
theorem q_began (k w : Int32) : cOK m_X11_began m_X12_began [.int k, .int w] := e_ok fun G x y σ τ h sz L LF pr hR => by
  obtain ⟨hd, fe, h1, h2⟩ := r_p hR
  obtain ⟨td, th, ta, t1, t2, t3, t4, t5⟩ := hR.2.2.2.2.2.2.1
  exact ⟨_, c_began h1 t1 t3 t4, d_began h2 t2 t3 t5⟩
theorem q_ask (k : Int32) : cOK m_X11_ask m_X12_ask [.int k] := e_ok fun G x y σ τ h sz L LF pr hR => by
  obtain ⟨hd, fe, h1, h2⟩ := r_p hR
  obtain ⟨td, th, ta, t1, t2, t3, t4, t5⟩ := hR.2.2.2.2.2.2.1
  exact ⟨_, c_ask h1 t1 t3 t4, d_ask h2 t2 t3 t5⟩
theorem q_place : cOK m_X11_place m_X12_place [] := e_ok fun G x y σ τ h sz L LF pr hR => ⟨σ 0 11, c_place, by rw [hR.2.2.2.2.2.2.2.2.1]; exact d_place⟩

