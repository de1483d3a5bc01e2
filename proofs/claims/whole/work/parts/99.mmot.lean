/-- those that are for a motion, as the reference gathers them -/
def moS (hs : Nat → Option Nat) : Nat → Nat → Int32 → Option (Nat × Nat) → Int32 × Option (Nat × Nat)
  | 0, _, w, g => (w, g)
  | k + 1, j, w, g => match hs j with
    | none => moS hs k (j + 1) w (orE g (4, j))
    | some i => moS hs k (j + 1) (w ||| (1 : Int32) <<< (nI i &&& 31)) (if (w >>> (nI i &&& 31)) &&& 1 = 1 then orE g (3, j) else g)
theorem moS_s (hs : Nat → Option Nat) : ∀ k j w g, moS hs (k + 1) j w g = (match hs (j + k) with
    | none => ((moS hs k j w g).1, orE (moS hs k j w g).2 (4, j + k))
    | some i => ((moS hs k j w g).1 ||| (1 : Int32) <<< (nI i &&& 31), if ((moS hs k j w g).1 >>> (nI i &&& 31)) &&& 1 = 1 then orE (moS hs k j w g).2 (3, j + k) else (moS hs k j w g).2))
  | 0, j, w, g => by
    show (match hs j with | none => _ | some i => _) = _
    rw [Nat.add_zero]
    rcases hs j with _ | i <;> rfl
  | k + 1, j, w, g => by
    have e : moS hs (k + 1 + 1) j w g = match hs j with
      | none => moS hs (k + 1) (j + 1) w (orE g (4, j))
      | some i => moS hs (k + 1) (j + 1) (w ||| (1 : Int32) <<< (nI i &&& 31)) (if (w >>> (nI i &&& 31)) &&& 1 = 1 then orE g (3, j) else g) := rfl
    have e2 : moS hs (k + 1) j w g = match hs j with
      | none => moS hs k (j + 1) w (orE g (4, j))
      | some i => moS hs k (j + 1) (w ||| (1 : Int32) <<< (nI i &&& 31)) (if (w >>> (nI i &&& 31)) &&& 1 = 1 then orE g (3, j) else g) := rfl
    rw [e, e2, show j + (k + 1) = j + 1 + k by omega]
    rcases hs j with _ | i
    · exact moS_s hs k (j + 1) _ _
    · exact moS_s hs k (j + 1) _ _
theorem moS_bef {hs : Nat → Option Nat} {a0 : Nat} : ∀ k j w g, (∀ x t, g = some (x, t) → t < j) → ∀ x t, (moS hs k j w g).2 = some (x, t) → t < j + k
  | 0, j, w, g, h, x, t, q => h x t q
  | k + 1, j, w, g, h, x, t, q => by
    rw [moS_s] at q
    have ih := moS_bef (hs := hs) (a0 := a0) k j w g h
    rcases hq : hs (j + k) with _ | i
    · rw [hq] at q
      rcases orE_some q with z | z
      · have := ih x t z; omega
      · cases z; omega
    · rw [hq] at q
      have q' : (if ((moS hs k j w g).1 >>> (nI i &&& 31)) &&& 1 = 1 then orE (moS hs k j w g).2 (3, j + k) else (moS hs k j w g).2) = some (x, t) := q
      split at q'
      · rcases orE_some q' with z | z
        · have := ih x t z; omega
        · cases z; omega
      · have := ih x t q'; omega
section S99
variable {G : hGl} {σ : hS} {τ : hT} {x y : Option Nat}
def pMo (f : hF) (n L h m a : Nat) (dT : Nat → Nat) (ix : Nat → Option Nat) (g : Option (Nat × Nat)) (r : hR) (σ : hS) (τ : hT) : hPo := fun v' r' σ' τ' => v' = none ∧ r' = r ∧ (∀ c, c ∉ [64, 73, 81, 82] → σ' c = σ c) ∧ (∀ c, c ∉ [72] → τ' c = τ c) ∧ kM [11, 13, 14, 15, 16, 20] σ σ' ∧ (atF 81 L σ σ' ∧ atF 82 (5 * L + m) σ σ') ∧ mSt f n (moX (kd f n) a) σ' ∧ ∀ b w, moX (kd f n) a = .inr (b, w) → (σ' 81 L = nI (m + 1) ∧ σ' 64 20 = nI (h + m + 1) ∧ τ' 72 = vp_updL (τ 72) (h + m) (lN (dg f n a)) ∧ σ' 73 = upd (σ 73) (h + m) (-1)) ∧ σ' 82 (5 * L + m) = (moS (fun j => hsN dT ix (dg f n j) (h + m) 0) (b - 1 - (a + 1)) (a + 1) 0 (if hasN dT (dg f n a) (h + m) = true then orE g (3, a) else g)).1 ∧ wSt f n (moS (fun j => hsN dT ix (dg f n j) (h + m) 0) (b - 1 - (a + 1)) (a + 1) 0 (if hasN dT (dg f n a) (h + m) = true then orE g (3, a) else g)).2 σ'
theorem d_tellMotion {f : hF} {n L h m a : Nat} {u : Unit} {dT : Nat → Nat} {ix : Nat → Option Nat} {g : Option (Nat × Nat)} (ht : tokM f n σ τ) (hn : n ≤ 2000) (hs : mSt f n (.inr (a, u)) σ) (hg : wSt f n g σ) (hb : bef (.inr (a, u)) g) (hN : nmM h m dT ix σ τ) (hL : σ 64 19 = nI L) (hL2 : L < 2) (h81 : σ 81 L = nI m) (hm : m < 5) : hCal G (m_X12_tellMotion (pMo f n L h m a dT ix g (rr 38 51 x y) σ τ)) [.ref (hgA G 64)] shp (rr 38 51 x y) σ τ := by
  have h7 := hN.2.1
  have iT : ∀ {w : Int32}, w = nI L → 5 * w + nI m = nI (5 * L + m) := fun q => by rw [q]; exact ix5
  refine hv_enter pn_X12 rfl ?_
  generalize hQ : pMo f n L h m a dT ix g (rr 38 51 x y) σ τ = Q
  have tail : ∀ (s : hPR Unit) (σ1 : hS) (tv : Int32) (l3 l4 : Option Value), (∀ c, c ∉ [64, 82] → σ1 c = σ c) → kM [11, 13, 14, 15, 16] σ σ1 → atF 82 (5 * L + m) σ σ1 → mSt f n s σ1 → moX (kd f n) a = bd s (fun a _ => tk (kd f n) 27 a) → (∀ j u, s = .inr (j, u) → a + 1 ≤ j ∧ tv = nI a ∧ kd f n a = 23 ∧ σ1 82 (5 * L + m) = (moS (fun j => hsN dT ix (dg f n j) (h + m) 0) (j - (a + 1)) (a + 1) 0 (if hasN dT (dg f n a) (h + m) = true then orE g (3, a) else g)).1 ∧ wSt f n (moS (fun j => hsN dT ix (dg f n j) (h + m) 0) (j - (a + 1)) (a + 1) 0 (if hasN dT (dg f n a) (h + m) = true then orE g (3, a) else g)).2 σ1) → hV G (m_X12_tellMotion Q) 0 0 shp 102 [some (.ref (hgA G 64)), some (.int (nI (5 * L + m))), some (.int tv), l3, l4] [] (rr 38 51 x y) σ1 τ := by
    intro s σ1 tv l3 l4 o1 k1 at1 hm1 hX hj
    rcases hs1 : bd s (fun a _ => tk (kd f n) 27 a) with e | ⟨b, w⟩
    · skip
      refine hv_aload_n dX12_tellMotion_102 rfl ?_
      refine hv_iload_n dX12_tellMotion_103 rfl ?_
      refine hv_iconst (v := -1) dX12_tellMotion_104 (by decide) ?_
      refine hv_cv2 (d_ends (t := a) (N := h + m) (tokM_of ht o1 rfl) hm1 (by rw [k1 20 (by decide)]; exact hN.1) (by omega) (fun j u q => ⟨(hj j u q).2.1, (hj j u q).2.2.1, hs.2.2⟩)) dX12_tellMotion_105 ml_X12_290 mk_X12_ends (by first | rfl | assumption) rfl rfl rfl rfl rfl ?_
      rintro _ _ σ2 τ2 ⟨rfl, rfl, a1, a2, a3, a4, a5⟩
      rw [hs1] at a4
      refine hv_aload_n dX12_tellMotion_108 rfl ?_
      refine hv_geti dX12_tellMotion_109 fl_X12_203 (by first | rfl | assumption) rfl ?_
      refine hv_if_ne (tgt := 128) dX12_tellMotion_112 (by decide) (fun c_112 => ?_) (fun c_112 => absurd c_112 ((by obtain ⟨z, t⟩ := e; rw [a4.1]; exact nI_ne0 (by have := a4.2.1; omega) (by have := a4.2.1; omega))))
      refine hv_vret dX12_tellMotion_128 rfl ?_
      rw [← hQ]
      exact ⟨rfl, rfl, off_tr o1 a1 (by decide) (by decide), a2, kM_tr k1 a3 (by decide) (by decide), ⟨fun j _ => by rw [a1 81 (by decide), o1 81 (by decide)], fun j hq => by rw [a1 82 (by decide)]; exact at1 j hq⟩, by rw [hX, hs1]; exact a4, fun b w q => by rw [hX, hs1] at q; cases q⟩
    · obtain ⟨j, u', rfl, htk⟩ : ∃ j u, s = .inr (j, u) ∧ tk (kd f n) 27 j = .inr (b, w) := by
        rcases s with e | ⟨j, u⟩
        · cases hs1
        · exact ⟨j, u, rfl, hs1⟩
      obtain ⟨-, -, rfl⟩ := tk_inr htk
      obtain ⟨j1, j2, j3, j4, j5⟩ := hj j u' rfl
      refine hv_aload_n dX12_tellMotion_102 rfl ?_
      refine hv_iload_n dX12_tellMotion_103 rfl ?_
      refine hv_iconst (v := -1) dX12_tellMotion_104 (by decide) ?_
      refine hv_cv2 (d_ends (t := a) (N := h + m) (tokM_of ht o1 rfl) hm1 (by rw [k1 20 (by decide)]; exact hN.1) (by omega) (fun j u q => ⟨(hj j u q).2.1, (hj j u q).2.2.1, hs.2.2⟩)) dX12_tellMotion_105 ml_X12_290 mk_X12_ends (by first | rfl | assumption) rfl rfl rfl rfl rfl ?_
      rintro _ _ σ2 τ2 ⟨rfl, rfl, a1, a2, a3, a4, a5⟩
      obtain ⟨z1, z2, z3⟩ := a5 (j + 1) w hs1
      rw [hs1] at a4
      have f19 : σ2 64 19 = nI L := by rw [a3 19 (by decide), k1 19 (by decide)]; exact hL
      have f81 : σ2 81 L = nI m := by rw [a1 81 (by decide), o1 81 (by decide)]; exact h81
      refine hv_aload_n dX12_tellMotion_108 rfl ?_
      refine hv_geti dX12_tellMotion_109 fl_X12_203 (by first | rfl | assumption) rfl ?_
      refine hv_if_ne (tgt := 128) dX12_tellMotion_112 (by decide) (fun c_112 => absurd (a4.1) c_112) (fun c_112 => ?_)
      refine hv_aload_n dX12_tellMotion_115 rfl ?_
      refine hv_getr dX12_tellMotion_116 fl_X12_67 (by first | rfl | assumption) rfl (by first | rfl | assumption) ?_
      refine hv_aload_n dX12_tellMotion_119 rfl ?_
      refine hv_geti dX12_tellMotion_120 fl_X12_236 (by first | rfl | assumption) rfl ?_
      refine hv_dup2 dX12_tellMotion_123 rfl rfl ?_
      refine hv_iald dX12_tellMotion_124 (by first | rfl | assumption) (j := L) f19 (by omega) (by first | decide | assumption) ?_
      refine hv_iconst (v := 1) dX12_tellMotion_125 (by decide) ?_
      refine hv_iadd dX12_tellMotion_126 ?_
      refine hv_iast dX12_tellMotion_127 (by first | rfl | assumption) (j := L) f19 (by omega) (by first | decide | assumption) ?_
      refine hv_vret dX12_tellMotion_128 rfl ?_
      rw [← hQ]
      refine ⟨rfl, rfl, off_up (off_tr o1 a1 (by decide) (by decide)) (by decide), a2, kM_c (kM_tr k1 a3 (by decide) (by decide)) (by decide), ⟨fun q hq => by rw [hup_eq, pk_un hq, a1 81 (by decide), o1 81 (by decide)], fun q hq => by rw [hva_ne (by decide), a1 82 (by decide)]; exact at1 q hq⟩, by rw [hX, hs1]; exact mSt_of a4 rfl rfl rfl, fun b' w' q => ?_⟩
      rw [hX, hs1] at q
      cases q
      rw [show j + 1 - 1 - (a + 1) = j - (a + 1) by omega]
      refine ⟨⟨by rw [hup_eq, pk_us, f81, nI_1], by rw [hva_ne (by decide)]; exact z3, z1, by rw [hva_ne (by decide), z2, o1 73 (by decide)]⟩, by rw [hva_ne (by decide), a1 82 (by decide)]; exact j4, wSt_of j5 (by rw [hva_ne (by decide), a3 15 (by decide)]) (by rw [hva_ne (by decide), a3 16 (by decide)])⟩
  generalize hG1 : (if hasN dT (dg f n a) (h + m) = true then orE g (3, a) else g) = G1 at tail
  have hG1b : ∀ x t, G1 = some (x, t) → t < a + 1 := by
    intro x t q
    rw [← hG1] at q
    have := orE_b (fun k t q => hb k t q a u rfl) q
    omega
  generalize hHS : (fun j => hsN dT ix (dg f n j) (h + m) 0) = HS at tail
  have loop : ∀ k j (σ1 : hS) (l3 l4 : Option Value), 401 ≤ k + j → a + 1 ≤ j → kd f n a = 23 → (∀ c, c ∉ [64, 82] → σ1 c = σ c) → kM [11, 13, 14, 15, 16] σ σ1 → atF 82 (5 * L + m) σ σ1 → mSt f n (.inr (j, ())) σ1 → moX (kd f n) a = bd (nmsX (kd f n) k j) (fun a _ => tk (kd f n) 27 a) → σ1 82 (5 * L + m) = (moS HS (j - (a + 1)) (a + 1) 0 G1).1 → wSt f n (moS HS (j - (a + 1)) (a + 1) 0 G1).2 σ1 → hV G (m_X12_tellMotion Q) 0 0 shp 29 [some (.ref (hgA G 64)), some (.int (nI (5 * L + m))), some (.int (nI a)), l3, l4] [] (rr 38 51 x y) σ1 τ := by
    intro k
    induction k with
    | zero =>
      intro j σ1 l3 l4 h1 h2 h3 o1 k1 at1 hm1 hX e82 hw
      have := hm1.2.2.1
      omega
    | succ k ih =>
      intro j σ1 l3 l4 h1 h2 h3 o1 k1 at1 hm1 hX e82 hw
      have t1 := tokM_of ht o1 rfl
      have hjl := hm1.2.2.1
      have e0 : nmsX (kd f n) (k + 1) j = if kd f n j = 23 then bd (pass j) (fun a _ => nmsX (kd f n) k a) else .inr (j, ()) := rfl
      by_cases k23 : kd f n j = 23
      · rw [e0, if_pos k23] at hX
        have etk : tk (kd f n) 23 j = pass j := if_pos k23
        have hbf : bef (.inr (j, ())) (moS HS (j - (a + 1)) (a + 1) 0 G1).2 := by
          intro x t q b w z
          cases z
          have := moS_bef (a0 := 0) (j - (a + 1)) (a + 1) 0 G1 hG1b x t q
          omega
        have hst := moS_s HS (j - (a + 1)) (a + 1) 0 G1
        rw [show a + 1 + (j - (a + 1)) = j by omega, show j - (a + 1) + 1 = j + 1 - (a + 1) by omega] at hst
        have hHj : HS j = hsN dT ix (dg f n j) (h + m) 0 := by rw [← hHS]
        generalize hW : moS HS (j - (a + 1)) (a + 1) 0 G1 = Wg at e82 hw hbf hst
        obtain ⟨w0, g0⟩ := Wg
        dsimp only at e82 hw hbf hst
        have N1 := nmM_of (σ' := σ1) hN (k1 20 (by decide)) (o1 73 (by decide))
        rcases pass_cases j with ⟨p1, p2⟩ | ⟨p1, p2⟩
        · rw [p2] at hX etk
          have hX' : moX (kd f n) a = bd (nmsX (kd f n) k (j + 1)) (fun a _ => tk (kd f n) 27 a) := hX
          rcases ho : hsN dT ix (dg f n j) (h + m) 0 with _ | i
          · rw [hHj, ho] at hst
            refine hv_aload_n dX12_tellMotion_29 rfl ?_
            refine hv_geti dX12_tellMotion_30 fl_X12_203 (by first | rfl | assumption) rfl ?_
            refine hv_if_ne (tgt := 102) dX12_tellMotion_33 (by decide) (fun c_33 => absurd (hm1.1) c_33) (fun c_33 => ?_)
            refine hv_aload_n dX12_tellMotion_36 rfl ?_
            refine hv_iconst (v := 1) dX12_tellMotion_37 (by decide) ?_
            refine hv_cv1 (d_is (k := 23) (by decide) (by decide) t1 hm1) dX12_tellMotion_38 ml_X12_221 mk_X12_is (by first | rfl | assumption) rfl rfl rfl rfl rfl ?_
            rintro _ _ _ _ ⟨rfl, rfl, rfl, rfl⟩
            rw [isM_t k23]
            refine hv_if_eq (tgt := 102) dX12_tellMotion_41 (by decide) (fun c_41 => absurd c_41 ((show ¬ bI true = 0 by decide))) (fun c_41 => ?_)
            refine hv_aload_n dX12_tellMotion_44 rfl ?_
            refine hv_geti dX12_tellMotion_45 fl_X12_206 (by first | rfl | assumption) rfl ?_
            rw [hm1.2.1]
            refine hv_istore_n dX12_tellMotion_48 rfl rfl ?_
            refine hv_aload_n dX12_tellMotion_49 rfl ?_
            refine hv_cv0 (d_knownHouse t1 hn hm1 hw hbf N1) dX12_tellMotion_50 ml_X12_293 mk_X12_knownHouse (by first | rfl | assumption) rfl rfl rfl rfl rfl ?_
            rintro _ _ σ2 _ ⟨o, rfl, rfl, rfl, a1, a2, a3, a4, g1, a5, a6⟩
            have a3' : mSt f n (tk (kd f n) 23 j) σ2 := a3
            rw [etk] at a3'
            obtain ⟨x1, x2⟩ := a6 j () (j + 1) () rfl etk
            rw [ho] at x1 x2
            subst x1
            rw [if_pos rfl] at x2
            refine hv_istore dX12_tellMotion_53 rfl rfl ?_
            refine hv_iload dX12_tellMotion_55 rfl ?_
            refine hv_if_lt (tgt := 81) dX12_tellMotion_57 (by decide) (fun c_57 => ?_) (fun c_57 => absurd ((show (-1 : Int32) < 0 by decide)) c_57)
            refine hv_iload dX12_tellMotion_81 rfl ?_
            refine hv_if_lt (tgt := 99) dX12_tellMotion_83 (by decide) (fun c_83 => ?_) (fun c_83 => absurd ((show (-1 : Int32) < 0 by decide)) c_83)
            refine hv_goto (tgt := 29) dX12_tellMotion_99 (by decide) ?_
            exact ih (j + 1) σ2 _ _ (by omega) (by omega) h3 (off_tr o1 a1 (by decide) (by decide)) (kM_tr k1 a2 (by decide) (by decide)) (fun q hq => by rw [a1 82 (by decide)]; exact at1 q hq) a3' hX' (by rw [hst, a1 82 (by decide)]; exact e82) (by rw [hst]; rw [x2] at a5; exact a5)
          · rw [hHj, ho] at hst
            have hi := hsN_lt hN (h + m) 0 i (by omega) ho
            by_cases bt : (w0 >>> (nI i &&& 31)) &&& 1 = 1
            · have hst' : moS HS (j + 1 - (a + 1)) (a + 1) 0 G1 = (w0 ||| (1 : Int32) <<< (nI i &&& 31), orE g0 (3, j)) := by rw [hst]; exact congrArg (fun z => (w0 ||| (1 : Int32) <<< (nI i &&& 31), z)) (if_pos bt)
              refine hv_aload_n dX12_tellMotion_29 rfl ?_
              refine hv_geti dX12_tellMotion_30 fl_X12_203 (by first | rfl | assumption) rfl ?_
              refine hv_if_ne (tgt := 102) dX12_tellMotion_33 (by decide) (fun c_33 => absurd (hm1.1) c_33) (fun c_33 => ?_)
              refine hv_aload_n dX12_tellMotion_36 rfl ?_
              refine hv_iconst (v := 1) dX12_tellMotion_37 (by decide) ?_
              refine hv_cv1 (d_is (k := 23) (by decide) (by decide) t1 hm1) dX12_tellMotion_38 ml_X12_221 mk_X12_is (by first | rfl | assumption) rfl rfl rfl rfl rfl ?_
              rintro _ _ _ _ ⟨rfl, rfl, rfl, rfl⟩
              rw [isM_t k23]
              refine hv_if_eq (tgt := 102) dX12_tellMotion_41 (by decide) (fun c_41 => absurd c_41 ((show ¬ bI true = 0 by decide))) (fun c_41 => ?_)
              refine hv_aload_n dX12_tellMotion_44 rfl ?_
              refine hv_geti dX12_tellMotion_45 fl_X12_206 (by first | rfl | assumption) rfl ?_
              rw [hm1.2.1]
              refine hv_istore_n dX12_tellMotion_48 rfl rfl ?_
              refine hv_aload_n dX12_tellMotion_49 rfl ?_
              refine hv_cv0 (d_knownHouse t1 hn hm1 hw hbf N1) dX12_tellMotion_50 ml_X12_293 mk_X12_knownHouse (by first | rfl | assumption) rfl rfl rfl rfl rfl ?_
              rintro _ _ σ2 _ ⟨o, rfl, rfl, rfl, a1, a2, a3, a4, g1, a5, a6⟩
              have a3' : mSt f n (tk (kd f n) 23 j) σ2 := a3
              rw [etk] at a3'
              obtain ⟨x1, x2⟩ := a6 j () (j + 1) () rfl etk
              rw [ho] at x1 x2
              subst x1
              rw [if_neg (by simp)] at x2
              rw [x2] at a5
              have f82 : σ2 82 (5 * L + m) = w0 := by rw [a1 82 (by decide)]; exact e82
              refine hv_istore dX12_tellMotion_53 rfl rfl ?_
              refine hv_iload dX12_tellMotion_55 rfl ?_
              refine hv_if_lt (tgt := 81) dX12_tellMotion_57 (by decide) (fun c_57 => absurd c_57 ((show ¬ nI i < 0 from nI_pos (by omega)))) (fun c_57 => ?_)
              refine hv_aload_n dX12_tellMotion_60 rfl ?_
              refine hv_getr dX12_tellMotion_61 fl_X12_70 (by first | rfl | assumption) rfl (by first | rfl | assumption) ?_
              refine hv_iload_n dX12_tellMotion_64 rfl ?_
              refine hv_iald dX12_tellMotion_65 (by first | rfl | assumption) (j := 5 * L + m) rfl (by omega) (by first | decide | assumption) ?_
              refine hv_iload dX12_tellMotion_66 rfl ?_
              refine hv_ishr dX12_tellMotion_68 ?_
              refine hv_iconst (v := 1) dX12_tellMotion_69 (by decide) ?_
              refine hv_iand dX12_tellMotion_70 ?_
              refine hv_iconst (v := 1) dX12_tellMotion_71 (by decide) ?_
              refine hv_icmp_ne (tgt := 81) dX12_tellMotion_72 (by decide) (fun c_72 => absurd ((by rw [f82]; exact bt)) c_72) (fun c_72 => ?_)
              refine hv_aload_n dX12_tellMotion_75 rfl ?_
              refine hv_iconst (v := 3) dX12_tellMotion_76 (by decide) ?_
              refine hv_iload_n dX12_tellMotion_77 rfl ?_
              refine hv_cv2 (d_wrong (k := 3) (t := j) (g := g0) rfl (Or.inl rfl) (tokM_of t1 a1 rfl) hn a3'.1 a5 hm1.2.2 (fun k0 t0 q => Or.inl (hbf k0 t0 q j () rfl))) dX12_tellMotion_78 ml_X12_283 mk_X12_wrong (by first | rfl | assumption) rfl rfl rfl rfl rfl ?_
              rintro _ _ σ3 _ ⟨rfl, rfl, rfl, d1, d2, d3⟩
              have f82' : σ3 82 (5 * L + m) = w0 := by rw [d1 82 (by decide)]; exact f82
              refine hv_iload dX12_tellMotion_81 rfl ?_
              refine hv_if_lt (tgt := 99) dX12_tellMotion_83 (by decide) (fun c_83 => absurd c_83 ((show ¬ nI i < 0 from nI_pos (by omega)))) (fun c_83 => ?_)
              refine hv_aload_n dX12_tellMotion_86 rfl ?_
              refine hv_getr dX12_tellMotion_87 fl_X12_70 (by first | rfl | assumption) rfl (by first | rfl | assumption) ?_
              refine hv_iload_n dX12_tellMotion_90 rfl ?_
              refine hv_dup2 dX12_tellMotion_91 rfl rfl ?_
              refine hv_iald dX12_tellMotion_92 (by first | rfl | assumption) (j := 5 * L + m) rfl (by omega) (by first | decide | assumption) ?_
              refine hv_iconst (v := 1) dX12_tellMotion_93 (by decide) ?_
              refine hv_iload dX12_tellMotion_94 rfl ?_
              refine hv_ishl dX12_tellMotion_96 ?_
              refine hv_ior dX12_tellMotion_97 ?_
              refine hv_iast dX12_tellMotion_98 (by first | rfl | assumption) (j := 5 * L + m) rfl (by omega) (by first | decide | assumption) ?_
              refine hv_goto (tgt := 29) dX12_tellMotion_99 (by decide) ?_
              exact ih (j + 1) _ _ _ (by omega) (by omega) h3 (off_up (off_tr (off_tr o1 a1 (Z := [64, 82]) (by decide) (by decide)) d1 (by decide) (by decide)) (by decide)) (kM_c (kM_tr (kM_tr k1 a2 (Z := [11, 13, 14, 15, 16]) (by decide) (by decide)) d2 (by decide) (by decide)) (by decide)) (fun q hq => by rw [hup_eq, pk_un hq, d1 82 (by decide), a1 82 (by decide)]; exact at1 q hq) (mSt_of a3' (d2 11 (by decide)) (d2 13 (by decide)) (d2 14 (by decide))) hX' (by rw [hst', hup_eq, pk_us, f82']; rfl) (by rw [hst']; exact wSt_of d3 rfl rfl)
            · have hst' : moS HS (j + 1 - (a + 1)) (a + 1) 0 G1 = (w0 ||| (1 : Int32) <<< (nI i &&& 31), g0) := by rw [hst]; exact congrArg (fun z => (w0 ||| (1 : Int32) <<< (nI i &&& 31), z)) (if_neg bt)
              refine hv_aload_n dX12_tellMotion_29 rfl ?_
              refine hv_geti dX12_tellMotion_30 fl_X12_203 (by first | rfl | assumption) rfl ?_
              refine hv_if_ne (tgt := 102) dX12_tellMotion_33 (by decide) (fun c_33 => absurd (hm1.1) c_33) (fun c_33 => ?_)
              refine hv_aload_n dX12_tellMotion_36 rfl ?_
              refine hv_iconst (v := 1) dX12_tellMotion_37 (by decide) ?_
              refine hv_cv1 (d_is (k := 23) (by decide) (by decide) t1 hm1) dX12_tellMotion_38 ml_X12_221 mk_X12_is (by first | rfl | assumption) rfl rfl rfl rfl rfl ?_
              rintro _ _ _ _ ⟨rfl, rfl, rfl, rfl⟩
              rw [isM_t k23]
              refine hv_if_eq (tgt := 102) dX12_tellMotion_41 (by decide) (fun c_41 => absurd c_41 ((show ¬ bI true = 0 by decide))) (fun c_41 => ?_)
              refine hv_aload_n dX12_tellMotion_44 rfl ?_
              refine hv_geti dX12_tellMotion_45 fl_X12_206 (by first | rfl | assumption) rfl ?_
              rw [hm1.2.1]
              refine hv_istore_n dX12_tellMotion_48 rfl rfl ?_
              refine hv_aload_n dX12_tellMotion_49 rfl ?_
              refine hv_cv0 (d_knownHouse t1 hn hm1 hw hbf N1) dX12_tellMotion_50 ml_X12_293 mk_X12_knownHouse (by first | rfl | assumption) rfl rfl rfl rfl rfl ?_
              rintro _ _ σ2 _ ⟨o, rfl, rfl, rfl, a1, a2, a3, a4, g1, a5, a6⟩
              have a3' : mSt f n (tk (kd f n) 23 j) σ2 := a3
              rw [etk] at a3'
              obtain ⟨x1, x2⟩ := a6 j () (j + 1) () rfl etk
              rw [ho] at x1 x2
              subst x1
              rw [if_neg (by simp)] at x2
              rw [x2] at a5
              have f82 : σ2 82 (5 * L + m) = w0 := by rw [a1 82 (by decide)]; exact e82
              refine hv_istore dX12_tellMotion_53 rfl rfl ?_
              refine hv_iload dX12_tellMotion_55 rfl ?_
              refine hv_if_lt (tgt := 81) dX12_tellMotion_57 (by decide) (fun c_57 => absurd c_57 ((show ¬ nI i < 0 from nI_pos (by omega)))) (fun c_57 => ?_)
              refine hv_aload_n dX12_tellMotion_60 rfl ?_
              refine hv_getr dX12_tellMotion_61 fl_X12_70 (by first | rfl | assumption) rfl (by first | rfl | assumption) ?_
              refine hv_iload_n dX12_tellMotion_64 rfl ?_
              refine hv_iald dX12_tellMotion_65 (by first | rfl | assumption) (j := 5 * L + m) rfl (by omega) (by first | decide | assumption) ?_
              refine hv_iload dX12_tellMotion_66 rfl ?_
              refine hv_ishr dX12_tellMotion_68 ?_
              refine hv_iconst (v := 1) dX12_tellMotion_69 (by decide) ?_
              refine hv_iand dX12_tellMotion_70 ?_
              refine hv_iconst (v := 1) dX12_tellMotion_71 (by decide) ?_
              refine hv_icmp_ne (tgt := 81) dX12_tellMotion_72 (by decide) (fun c_72 => ?_) (fun c_72 => absurd c_72 ((by rw [f82]; exact bt)))
              refine hv_iload dX12_tellMotion_81 rfl ?_
              refine hv_if_lt (tgt := 99) dX12_tellMotion_83 (by decide) (fun c_83 => absurd c_83 ((show ¬ nI i < 0 from nI_pos (by omega)))) (fun c_83 => ?_)
              refine hv_aload_n dX12_tellMotion_86 rfl ?_
              refine hv_getr dX12_tellMotion_87 fl_X12_70 (by first | rfl | assumption) rfl (by first | rfl | assumption) ?_
              refine hv_iload_n dX12_tellMotion_90 rfl ?_
              refine hv_dup2 dX12_tellMotion_91 rfl rfl ?_
              refine hv_iald dX12_tellMotion_92 (by first | rfl | assumption) (j := 5 * L + m) rfl (by omega) (by first | decide | assumption) ?_
              refine hv_iconst (v := 1) dX12_tellMotion_93 (by decide) ?_
              refine hv_iload dX12_tellMotion_94 rfl ?_
              refine hv_ishl dX12_tellMotion_96 ?_
              refine hv_ior dX12_tellMotion_97 ?_
              refine hv_iast dX12_tellMotion_98 (by first | rfl | assumption) (j := 5 * L + m) rfl (by omega) (by first | decide | assumption) ?_
              refine hv_goto (tgt := 29) dX12_tellMotion_99 (by decide) ?_
              exact ih (j + 1) _ _ _ (by omega) (by omega) h3 (off_up (off_tr o1 a1 (Z := [64, 82]) (by decide) (by decide)) (by decide)) (kM_c (kM_tr k1 a2 (by decide) (by decide)) (by decide)) (fun q hq => by rw [hup_eq, pk_un hq, a1 82 (by decide)]; exact at1 q hq) (mSt_of a3' rfl rfl rfl) hX' (by rw [hst', hup_eq, pk_us, f82]; rfl) (by rw [hst']; exact wSt_of a5 rfl rfl)
        · rw [p2] at hX etk
          have hX' : moX (kd f n) a = .inl (2, j) := hX
          refine hv_aload_n dX12_tellMotion_29 rfl ?_
          refine hv_geti dX12_tellMotion_30 fl_X12_203 (by first | rfl | assumption) rfl ?_
          refine hv_if_ne (tgt := 102) dX12_tellMotion_33 (by decide) (fun c_33 => absurd (hm1.1) c_33) (fun c_33 => ?_)
          refine hv_aload_n dX12_tellMotion_36 rfl ?_
          refine hv_iconst (v := 1) dX12_tellMotion_37 (by decide) ?_
          refine hv_cv1 (d_is (k := 23) (by decide) (by decide) t1 hm1) dX12_tellMotion_38 ml_X12_221 mk_X12_is (by first | rfl | assumption) rfl rfl rfl rfl rfl ?_
          rintro _ _ _ _ ⟨rfl, rfl, rfl, rfl⟩
          rw [isM_t k23]
          refine hv_if_eq (tgt := 102) dX12_tellMotion_41 (by decide) (fun c_41 => absurd c_41 ((show ¬ bI true = 0 by decide))) (fun c_41 => ?_)
          refine hv_aload_n dX12_tellMotion_44 rfl ?_
          refine hv_geti dX12_tellMotion_45 fl_X12_206 (by first | rfl | assumption) rfl ?_
          refine hv_istore_n dX12_tellMotion_48 rfl rfl ?_
          refine hv_aload_n dX12_tellMotion_49 rfl ?_
          refine hv_cv0 (d_knownHouse t1 hn hm1 hw hbf N1) dX12_tellMotion_50 ml_X12_293 mk_X12_knownHouse (by first | rfl | assumption) rfl rfl rfl rfl rfl ?_
          rintro _ _ σ2 _ ⟨o, rfl, rfl, rfl, a1, a2, a3, a4, g1, a5, a6⟩
          have a3' : mSt f n (tk (kd f n) 23 j) σ2 := a3
          rw [etk] at a3'
          obtain rfl := a4 (2, j) etk
          refine hv_istore dX12_tellMotion_53 rfl rfl ?_
          refine hv_iload dX12_tellMotion_55 rfl ?_
          refine hv_if_lt (tgt := 81) dX12_tellMotion_57 (by decide) (fun c_57 => ?_) (fun c_57 => absurd ((show (-1 : Int32) < 0 by decide)) c_57)
          refine hv_iload dX12_tellMotion_81 rfl ?_
          refine hv_if_lt (tgt := 99) dX12_tellMotion_83 (by decide) (fun c_83 => ?_) (fun c_83 => absurd ((show (-1 : Int32) < 0 by decide)) c_83)
          refine hv_goto (tgt := 29) dX12_tellMotion_99 (by decide) ?_
          skip
          refine hv_aload_n dX12_tellMotion_29 rfl ?_
          refine hv_geti dX12_tellMotion_30 fl_X12_203 (by first | rfl | assumption) rfl ?_
          refine hv_if_ne (tgt := 102) dX12_tellMotion_33 (by decide) (fun c_33 => ?_) (fun c_33 => absurd c_33 ((by rw [a3'.1]; decide)))
          exact tail (.inl (2, j)) σ2 _ _ _ (off_tr o1 a1 (by decide) (by decide)) (kM_tr k1 a2 (by decide) (by decide)) (fun q hq => by rw [a1 82 (by decide)]; exact at1 q hq) a3' hX' (fun j u q => (nomatch q))
      · rw [e0, if_neg k23] at hX
        refine hv_aload_n dX12_tellMotion_29 rfl ?_
        refine hv_geti dX12_tellMotion_30 fl_X12_203 (by first | rfl | assumption) rfl ?_
        refine hv_if_ne (tgt := 102) dX12_tellMotion_33 (by decide) (fun c_33 => absurd (hm1.1) c_33) (fun c_33 => ?_)
        refine hv_aload_n dX12_tellMotion_36 rfl ?_
        refine hv_iconst (v := 1) dX12_tellMotion_37 (by decide) ?_
        refine hv_cv1 (d_is (k := 23) (by decide) (by decide) t1 hm1) dX12_tellMotion_38 ml_X12_221 mk_X12_is (by first | rfl | assumption) rfl rfl rfl rfl rfl ?_
        rintro _ _ _ _ ⟨rfl, rfl, rfl, rfl⟩
        rw [isM_f k23]
        refine hv_if_eq (tgt := 102) dX12_tellMotion_41 (by decide) (fun c_41 => ?_) (fun c_41 => absurd ((show bI false = 0 by decide)) c_41)
        exact tail (.inr (j, ())) σ1 _ _ _ o1 k1 at1 hm1 hX (fun j' u' q => by cases q; exact ⟨h2, rfl, h3, e82, hw⟩)
  refine hv_iconst (v := 5) dX12_tellMotion_0 (by decide) ?_
  refine hv_aload_n dX12_tellMotion_1 rfl ?_
  refine hv_geti dX12_tellMotion_2 fl_X12_236 (by first | rfl | assumption) rfl ?_
  refine hv_imul dX12_tellMotion_5 ?_
  refine hv_aload_n dX12_tellMotion_6 rfl ?_
  refine hv_getr dX12_tellMotion_7 fl_X12_67 (by first | rfl | assumption) rfl (by first | rfl | assumption) ?_
  refine hv_aload_n dX12_tellMotion_10 rfl ?_
  refine hv_geti dX12_tellMotion_11 fl_X12_236 (by first | rfl | assumption) rfl ?_
  refine hv_iald dX12_tellMotion_14 (by first | rfl | assumption) (j := L) hL (by omega) (by first | decide | assumption) ?_
  refine hv_iadd dX12_tellMotion_15 ?_
  rw [h81, iT hL]
  refine hv_istore_n dX12_tellMotion_16 rfl rfl ?_
  refine hv_aload_n dX12_tellMotion_17 rfl ?_
  refine hv_cv0 (d_named ht hn hs hg hb hN) dX12_tellMotion_18 ml_X12_286 mk_X12_named (by first | rfl | assumption) rfl rfl rfl rfl rfl ?_
  rintro _ _ σ1 _ ⟨tv, rfl, tv1, rfl, rfl, a1, a2, a3, g1, a4, a5⟩
  refine hv_istore_n dX12_tellMotion_21 rfl rfl ?_
  refine hv_aload_n dX12_tellMotion_22 rfl ?_
  refine hv_getr dX12_tellMotion_23 fl_X12_70 (by first | rfl | assumption) rfl (by first | rfl | assumption) ?_
  refine hv_iload_n dX12_tellMotion_26 rfl ?_
  refine hv_iconst (v := 0) dX12_tellMotion_27 (by decide) ?_
  refine hv_iast dX12_tellMotion_28 (by first | rfl | assumption) (j := 5 * L + m) rfl (by omega) (by first | decide | assumption) ?_
  have o2 : ∀ c, c ∉ [64, 82] → va_up σ1 82 (upd (σ1 82) (5 * L + m) 0) c = σ c := off_up (off_wk a1 (by decide)) (by decide)
  have k2 : kM [11, 13, 14, 15, 16] σ (va_up σ1 82 (upd (σ1 82) (5 * L + m) 0)) := kM_c a2 (by decide)
  have at2 : atF 82 (5 * L + m) σ (va_up σ1 82 (upd (σ1 82) (5 * L + m) 0)) := fun q hq => by rw [hup_eq, pk_un hq, a1 82 (by decide)]
  have hX : moX (kd f n) a = bd (tk (kd f n) 23 a) (fun a1 _ => bd (nmsX (kd f n) 401 a1) (fun a2 _ => tk (kd f n) 27 a2)) := rfl
  have a3' : mSt f n (tk (kd f n) 23 a) σ1 := a3
  rcases htk : tk (kd f n) 23 a with e | ⟨b, w⟩
  · rw [htk] at a3' hX
    refine hv_aload_n dX12_tellMotion_29 rfl ?_
    refine hv_geti dX12_tellMotion_30 fl_X12_203 (by first | rfl | assumption) rfl ?_
    refine hv_if_ne (tgt := 102) dX12_tellMotion_33 (by decide) (fun c_33 => ?_) (fun c_33 => absurd c_33 ((by obtain ⟨z, t⟩ := e; show ¬ σ1 64 13 = 0; rw [a3'.1]; exact nI_ne0 (by have := a3'.2.1; omega) (by have := a3'.2.1; omega))))
    exact tail (.inl e) _ _ _ _ o2 k2 at2 (mSt_of a3' rfl rfl rfl) hX (fun j u q => (nomatch q))
  · rw [htk] at a3' hX
    have hg1 := a5 a u b w rfl htk
    obtain ⟨k23, p1, rfl⟩ := tk_inr htk
    obtain rfl := tv1 a u rfl
    exact loop 401 (a + 1) _ _ _ (by omega) (Nat.le_refl _) k23 o2 k2 at2 (mSt_of a3' rfl rfl rfl) hX (by rw [Nat.sub_self, hup_eq, pk_us]; rfl) (by rw [Nat.sub_self]; show wSt f n G1 _; rw [← hG1, ← hg1]; exact wSt_of a4 rfl rfl)
end S99

