theorem kn_bef {K : Nat → Nat} {s : hPR Unit} {g g' : Option (Nat × Nat)} {x : Nat} (h : bef s g) (h2 : ∀ a u b w, s = .inr (a, u) → tk K 23 a = .inr (b, w) → g' = orE g (x, a) ∨ g' = g) : bef (bd s (fun a _ => tk K 23 a)) g' := by
  rcases s with e | ⟨a, u⟩
  · exact bef_l
  · intro k t q b w hb
    have hb' : tk K 23 a = .inr (b, w) := hb
    have e := h2 a u b w rfl hb'
    obtain ⟨-, -, rfl⟩ := tk_inr hb'
    have h0 : ∀ k t, g = some (k, t) → t < a := fun k t q => h k t q a u rfl
    rcases e with e | e
    · rw [e] at q
      rcases orE_some q with z | z
      · have := h0 k t z; omega
      · cases z; omega
    · rw [e] at q
      have := h0 k t q; omega
theorem if_two {p : Prop} [Decidable p] {α : Type} {x y : α} : (if p then x else y) = x ∨ (if p then x else y) = y := by
  by_cases h : p
  · exact Or.inl (if_pos h)
  · exact Or.inr (if_neg h)
theorem hrX_c {K : Nat → Nat} {a : Nat} {u : Unit} : bd (bd (bd (.inr (a, u) : hPR Unit) (fun a _ => tk K 23 a)) (fun a _ => tk K 23 a)) (fun a _ => tk K 27 a) = hrX K a := by
  unfold hrX
  show bd (bd (tk K 23 a) _) _ = _
  rcases tk K 23 a with e | ⟨a1, u1⟩
  · rfl
  rfl
theorem hsN_lt {h m : Nat} {dT : Nat → Nat} {ix : Nat → Option Nat} {σ : hS} {τ : hT} {d : Nat} (hN : nmM h m dT ix σ τ) : ∀ n k i, k + n = h + m → hsN dT ix d n k = some i → i < h
  | 0, k, i, _, q => by cases q
  | n + 1, k, i, e, q => by
    have q' : (if dT k = d ∧ (ix k).isSome then ix k else hsN dT ix d n (k + 1)) = some i := q
    split at q'
    · exact (hN.2.2.2 k (by omega)).2.2.2 i q'
    · exact hsN_lt hN n (k + 1) i (by omega) q'
def heG (bt : Nat → Nat → Bool) (o1 o2 : Option Nat) (a : Nat) (g : Option (Nat × Nat)) : Option (Nat × Nat) := match o1, o2 with
  | some i, some j => if i = j ∨ bt i j = true then orE g (3, a + 1) else g
  | some _, none => orE g (4, a + 1)
  | none, some _ => orE g (4, a)
  | none, none => orE (orE g (4, a)) (4, a + 1)
def heT (w : hF) (L : Nat) (o1 o2 : Option Nat) : hF := match o1, o2 with
  | some i, some j => upd w (7 * L + i) (w (7 * L + i) ||| (1 : Int32) <<< (nI j &&& 31))
  | _, _ => w
def btI (w : hF) (L i j : Nat) : Bool := decide ((w (7 * L + i) >>> (nI j &&& 31)) &&& 1 = 1)
section S98
variable {G : hGl} {σ : hS} {τ : hT} {x y : Option Nat}
def pTr (f : hF) (n L N r a : Nat) (dT : Nat → Nat) (ix : Nat → Option Nat) (g : Option (Nat × Nat)) (r0 : hR) (σ : hS) (τ : hT) : hPo := fun v' r' σ' τ' => v' = none ∧ r' = r0 ∧ τ' = τ ∧ (∀ c, c ∉ [64, 79, 80] → σ' c = σ c) ∧ kM [11, 13, 14, 15, 16] σ σ' ∧ atF 80 L σ σ' ∧ mSt f n (hrX (kd f n) a) σ' ∧ (∀ e, hrX (kd f n) a = .inl e → σ' 79 = σ 79) ∧ ∀ b w, hrX (kd f n) a = .inr (b, w) → σ' 80 L = nI (r + 1) ∧ σ' 79 = heT (σ 79) L (hsN dT ix (dg f n a) N 0) (hsN dT ix (dg f n (a + 1)) N 0) ∧ wSt f n (heG (btI (σ 79) L) (hsN dT ix (dg f n a) N 0) (hsN dT ix (dg f n (a + 1)) N 0) a g) σ'
theorem d_tellHears {f : hF} {n L h m r a : Nat} {u : Unit} {dT : Nat → Nat} {ix : Nat → Option Nat} {g : Option (Nat × Nat)} (ht : tokM f n σ τ) (hn : n ≤ 2000) (hs : mSt f n (.inr (a, u)) σ) (hg : wSt f n g σ) (hb : bef (.inr (a, u)) g) (hN : nmM h m dT ix σ τ) (hL : σ 64 19 = nI L) (hL2 : L < 2) (h80 : σ 80 L = nI r) : hCal G (m_X12_tellHears (pTr f n L (h + m) r a dT ix g (rr 38 51 x y) σ τ)) [.ref (hgA G 64)] shp (rr 38 51 x y) σ τ := by
  refine hv_enter pn_X12 rfl ?_
  generalize hQ : pTr f n L (h + m) r a dT ix g (rr 38 51 x y) σ τ = Q
  have cont : ∀ (b : Bool) (o1 o2 : Option Nat) g3 (σ3 : hS) (l2 : Int32), (∀ k, k ∉ [64] → σ3 k = σ k) → kM [11, 13, 14, 15, 16] σ σ3 → mSt f n (.inr (a + 2, ())) σ3 → wSt f n g3 σ3 → tk (kd f n) 23 a = .inr (a + 1, ()) → tk (kd f n) 23 (a + 1) = .inr (a + 2, ()) → o1 = hsN dT ix (dg f n a) (h + m) 0 → o2 = hsN dT ix (dg f n (a + 1)) (h + m) 0 → g3 = heG (btI (σ 79) L) o1 o2 a g → (b = true ↔ (o1.isSome = true ∧ o2.isSome = true)) → hV G (m_X12_tellHears Q) 0 0 shp 75 [some (.ref (hgA G 64)), some (.int (oN o1)), some (.int l2), some (.int (oN o2)), some (.int (bI b))] [] (rr 38 51 x y) σ3 τ := by
    intro b o1 o2 g3 σ3 l2 x1 x2 x3 x4 q1 q2 x5 x6 x7 x8
    have e19 : σ3 64 19 = nI L := by rw [x2 19 (by decide)]; exact hL
    have hX0 : hrX (kd f n) a = tk (kd f n) 27 (a + 2) := by
      unfold hrX; rw [q1]; show bd (tk (kd f n) 23 (a + 1)) _ = _; rw [q2]; rfl
    rcases hX : tk (kd f n) 27 (a + 2) with e | ⟨b3, w3⟩
    · skip
      refine hv_aload_n dX12_tellHears_75 rfl ?_
      refine hv_iconst (v := 4) dX12_tellHears_76 (by decide) ?_
      refine hv_cv1 (d_must (k := 27) (s := .inr (a + 2, ())) (by decide) (by decide) (by decide) (tokM_of ht x1 rfl) x3) dX12_tellHears_77 ml_X12_261 mk_X12_must (by first | rfl | assumption) rfl rfl rfl rfl rfl ?_
      rintro _ _ σ4 _ ⟨rfl, rfl, rfl, a1, a2, a3⟩
      have a3' : mSt f n (tk (kd f n) 27 (a + 2)) σ4 := a3
      rw [hX] at a3'
      refine hv_aload_n dX12_tellHears_80 rfl ?_
      refine hv_geti dX12_tellHears_81 fl_X12_203 (by first | rfl | assumption) rfl ?_
      refine hv_if_le (tgt := 88) dX12_tellHears_84 (by decide) (fun c_84 => absurd c_84 ((by obtain ⟨z, t⟩ := e; rw [a3'.1]; rcases a3'.2.1 with q | q <;> rw [q] <;> decide))) (fun c_84 => ?_)
      refine hv_vret dX12_tellHears_87 rfl ?_
      rw [← hQ]
      have o4 := off_tr x1 a1 (Z := [64]) (by decide) (by decide)
      exact ⟨rfl, rfl, rfl, off_wk o4 (by decide), kM_tr x2 a2 (by decide) (by decide), fun j _ => by rw [o4 80 (by decide)], by rw [hX0, hX]; exact a3', fun _ _ => o4 79 (by decide), fun b w q => by rw [hX0, hX] at q; cases q⟩
    · have fin : ∀ σ5 : hS, (∀ k, k ∉ [64, 79, 80] → σ5 k = σ k) → kM [11, 13, 14, 15, 16] σ σ5 → σ5 80 = upd (σ 80) L (nI (r + 1)) → mSt f n (.inr (b3, w3)) σ5 → wSt f n g3 σ5 → σ5 79 = heT (σ 79) L o1 o2 → Q none (rr 38 51 x y) σ5 τ := by
        intro σ5 y1 y2 y3 y4 y5 y6
        rw [← hQ]
        exact ⟨rfl, rfl, rfl, y1, y2, fun j hj => by rw [y3, pk_un hj], by rw [hX0, hX]; exact y4, fun e q => (by rw [hX0, hX] at q; cases q), fun b w q => ⟨by rw [y3, pk_us], by rw [← x5, ← x6]; exact y6, by rw [← x5, ← x6, ← x7]; exact y5⟩⟩
      have m27 : ∀ σ4 : hS, mSt f n (bd (.inr (a + 2, ()) : hPR Unit) (fun a _ => tk (kd f n) 27 a)) σ4 → mSt f n (.inr (b3, w3)) σ4 := fun σ4 q => by
        have q' : mSt f n (tk (kd f n) 27 (a + 2)) σ4 := q
        rw [hX] at q'; exact q'
      cases b with
      | false =>
        have hno : heT (σ 79) L o1 o2 = σ 79 := by
          rcases o1 with _ | i
          · rfl
          · rcases o2 with _ | j
            · rfl
            · exact absurd (x8.mpr ⟨rfl, rfl⟩) (by decide)
        refine hv_aload_n dX12_tellHears_75 rfl ?_
        refine hv_iconst (v := 4) dX12_tellHears_76 (by decide) ?_
        refine hv_cv1 (d_must (k := 27) (s := .inr (a + 2, ())) (by decide) (by decide) (by decide) (tokM_of ht x1 rfl) x3) dX12_tellHears_77 ml_X12_261 mk_X12_must (by first | rfl | assumption) rfl rfl rfl rfl rfl ?_
        rintro _ _ σ4 _ ⟨rfl, rfl, rfl, a1, a2, a3⟩
        have a3' := m27 σ4 a3
        have o4 := off_tr x1 a1 (Z := [64]) (by decide) (by decide)
        have f19 : σ4 64 19 = nI L := by rw [a2 19 (by decide)]; exact e19
        refine hv_aload_n dX12_tellHears_80 rfl ?_
        refine hv_geti dX12_tellHears_81 fl_X12_203 (by first | rfl | assumption) rfl ?_
        refine hv_if_le (tgt := 88) dX12_tellHears_84 (by decide) (fun c_84 => ?_) (fun c_84 => absurd ((by rw [a3'.1]; decide)) c_84)
        refine hv_aload_n dX12_tellHears_88 rfl ?_
        refine hv_getr dX12_tellHears_89 fl_X12_64 (by first | rfl | assumption) rfl (by first | rfl | assumption) ?_
        refine hv_aload_n dX12_tellHears_92 rfl ?_
        refine hv_geti dX12_tellHears_93 fl_X12_236 (by first | rfl | assumption) rfl ?_
        refine hv_dup2 dX12_tellHears_96 rfl rfl ?_
        refine hv_iald dX12_tellHears_97 (by first | rfl | assumption) (j := L) f19 (by omega) (by first | decide | assumption) ?_
        refine hv_iconst (v := 1) dX12_tellHears_98 (by decide) ?_
        refine hv_iadd dX12_tellHears_99 ?_
        refine hv_iast dX12_tellHears_100 (by first | rfl | assumption) (j := L) f19 (by omega) (by first | decide | assumption) ?_
        refine hv_iload dX12_tellHears_101 rfl ?_
        refine hv_if_eq (tgt := 126) dX12_tellHears_103 (by decide) (fun c_103 => ?_) (fun c_103 => absurd ((show bI false = 0 by decide)) c_103)
        refine hv_vret dX12_tellHears_126 rfl ?_
        exact fin _ (off_up (off_wk o4 (by decide)) (by decide)) (kM_c (kM_tr x2 a2 (by decide) (by decide)) (by decide)) (by rw [hup_eq, o4 80 (by decide), h80, nI_1]) (mSt_of a3' rfl rfl rfl) (wSt_of x4 (by rw [hva_ne (by decide), a2 15 (by decide)]) (by rw [hva_ne (by decide), a2 16 (by decide)])) (by rw [hno, hva_ne (by decide), o4 79 (by decide)])
      | true =>
        obtain ⟨y1, y2⟩ := x8.mp rfl
        obtain ⟨i, rfl⟩ := Option.isSome_iff_exists.mp y1
        obtain ⟨j, rfl⟩ := Option.isSome_iff_exists.mp y2
        have hi := hsN_lt hN (h + m) 0 i (by omega) x5.symm
        have hj := hsN_lt hN (h + m) 0 j (by omega) x6.symm
        have h7 := hN.2.1
        have iT : ∀ {w : Int32}, w = nI L → 7 * w + nI i = nI (7 * L + i) := fun q => by rw [q]; exact ix7
        refine hv_aload_n dX12_tellHears_75 rfl ?_
        refine hv_iconst (v := 4) dX12_tellHears_76 (by decide) ?_
        refine hv_cv1 (d_must (k := 27) (s := .inr (a + 2, ())) (by decide) (by decide) (by decide) (tokM_of ht x1 rfl) x3) dX12_tellHears_77 ml_X12_261 mk_X12_must (by first | rfl | assumption) rfl rfl rfl rfl rfl ?_
        rintro _ _ σ4 _ ⟨rfl, rfl, rfl, a1, a2, a3⟩
        have a3' := m27 σ4 a3
        have o4 := off_tr x1 a1 (Z := [64]) (by decide) (by decide)
        have f19 : σ4 64 19 = nI L := by rw [a2 19 (by decide)]; exact e19
        refine hv_aload_n dX12_tellHears_80 rfl ?_
        refine hv_geti dX12_tellHears_81 fl_X12_203 (by first | rfl | assumption) rfl ?_
        refine hv_if_le (tgt := 88) dX12_tellHears_84 (by decide) (fun c_84 => ?_) (fun c_84 => absurd ((by rw [a3'.1]; decide)) c_84)
        refine hv_aload_n dX12_tellHears_88 rfl ?_
        refine hv_getr dX12_tellHears_89 fl_X12_64 (by first | rfl | assumption) rfl (by first | rfl | assumption) ?_
        refine hv_aload_n dX12_tellHears_92 rfl ?_
        refine hv_geti dX12_tellHears_93 fl_X12_236 (by first | rfl | assumption) rfl ?_
        refine hv_dup2 dX12_tellHears_96 rfl rfl ?_
        refine hv_iald dX12_tellHears_97 (by first | rfl | assumption) (j := L) f19 (by omega) (by first | decide | assumption) ?_
        refine hv_iconst (v := 1) dX12_tellHears_98 (by decide) ?_
        refine hv_iadd dX12_tellHears_99 ?_
        refine hv_iast dX12_tellHears_100 (by first | rfl | assumption) (j := L) f19 (by omega) (by first | decide | assumption) ?_
        refine hv_iload dX12_tellHears_101 rfl ?_
        refine hv_if_eq (tgt := 126) dX12_tellHears_103 (by decide) (fun c_103 => absurd c_103 ((show ¬ bI true = 0 by decide))) (fun c_103 => ?_)
        refine hv_aload_n dX12_tellHears_106 rfl ?_
        refine hv_getr dX12_tellHears_107 fl_X12_61 (by first | rfl | assumption) rfl (by first | rfl | assumption) ?_
        refine hv_bipush (v := 7) dX12_tellHears_110 (by decide) ?_
        refine hv_aload_n dX12_tellHears_112 rfl ?_
        refine hv_geti dX12_tellHears_113 fl_X12_236 (by first | rfl | assumption) rfl ?_
        refine hv_imul dX12_tellHears_116 ?_
        refine hv_iload_n dX12_tellHears_117 rfl ?_
        refine hv_iadd dX12_tellHears_118 ?_
        refine hv_dup2 dX12_tellHears_119 rfl rfl ?_
        refine hv_iald dX12_tellHears_120 (by first | rfl | assumption) (j := 7 * L + i) (iT f19) (by omega) (by first | decide | assumption) ?_
        refine hv_iconst (v := 1) dX12_tellHears_121 (by decide) ?_
        refine hv_iload_n dX12_tellHears_122 rfl ?_
        refine hv_ishl dX12_tellHears_123 ?_
        refine hv_ior dX12_tellHears_124 ?_
        refine hv_iast dX12_tellHears_125 (by first | rfl | assumption) (j := 7 * L + i) (iT f19) (by omega) (by first | decide | assumption) ?_
        refine hv_vret dX12_tellHears_126 rfl ?_
        exact fin _ (off_up (off_up (off_wk o4 (by decide)) (by decide)) (by decide)) (kM_c (kM_c (kM_tr x2 a2 (by decide) (by decide)) (by decide)) (by decide)) (by rw [hva_ne (by decide), hup_eq, o4 80 (by decide), h80, nI_1]) (mSt_of a3' rfl rfl rfl) (wSt_of x4 (by rw [hva_ne (by decide), hva_ne (by decide), a2 15 (by decide)]) (by rw [hva_ne (by decide), hva_ne (by decide), a2 16 (by decide)])) (by rw [hup_eq, hva_ne (by decide), o4 79 (by decide)]; rfl)
  refine hv_aload_n dX12_tellHears_0 rfl ?_
  refine hv_cv0 (d_knownHouse ht hn hs hg hb hN) dX12_tellHears_1 ml_X12_293 mk_X12_knownHouse (by first | rfl | assumption) rfl rfl rfl rfl rfl ?_
  rintro _ _ σ1 _ ⟨o1, rfl, rfl, rfl, a1, a2, a3, a4, g1, a5, a6⟩
  have b1 := kn_bef (K := kd f n) (g' := g1) (x := 4) hb (fun a' u' b' w' q1 q2 => by rw [(a6 a' u' b' w' q1 q2).2]; exact if_two)
  refine hv_istore_n dX12_tellHears_4 rfl rfl ?_
  refine hv_aload_n dX12_tellHears_5 rfl ?_
  refine hv_geti dX12_tellHears_6 fl_X12_206 (by first | rfl | assumption) rfl ?_
  refine hv_istore_n dX12_tellHears_9 rfl rfl ?_
  refine hv_aload_n dX12_tellHears_10 rfl ?_
  refine hv_cv0 (d_knownHouse (tokM_of ht a1 rfl) hn a3 a5 b1 (nmM_of hN (a2 20 (by decide)) (a1 73 (by decide)))) dX12_tellHears_11 ml_X12_293 mk_X12_knownHouse (by first | rfl | assumption) rfl rfl rfl rfl rfl ?_
  rintro _ _ σ2 _ ⟨o2, rfl, rfl, rfl, c1, c2, c3, c4, g2, c5, c6⟩
  have o12 := off_tr a1 c1 (Z := [64]) (by decide) (by decide)
  have k12 := kM_tr a2 c2 (Z := [11, 13, 14, 15, 16]) (by decide) (by decide)
  refine hv_istore_n dX12_tellHears_14 rfl rfl ?_
  rcases hs2 : bd (bd (.inr (a, u) : hPR Unit) (fun a _ => tk (kd f n) 23 a)) (fun a _ => tk (kd f n) 23 a) with e | ⟨a2', w2⟩
  · rw [hs2] at c3
    have hX : hrX (kd f n) a = .inl e := by rw [← hrX_c (u := u), hs2]; rfl
    refine hv_aload_n dX12_tellHears_15 rfl ?_
    refine hv_geti dX12_tellHears_16 fl_X12_203 (by first | rfl | assumption) rfl ?_
    refine hv_if_ne (tgt := 34) dX12_tellHears_19 (by decide) (fun c_19 => ?_) (fun c_19 => absurd c_19 ((by obtain ⟨z, t⟩ := e; rw [c3.1]; exact nI_ne0 (by have := c3.2.1; omega) (by have := c3.2.1; omega))))
    refine hv_iconst (v := 0) dX12_tellHears_34 (by decide) ?_
    refine hv_istore dX12_tellHears_35 rfl rfl ?_
    refine hv_iload dX12_tellHears_37 rfl ?_
    refine hv_if_eq (tgt := 75) dX12_tellHears_39 (by decide) (fun c_39 => ?_) (fun c_39 => absurd (rfl) c_39)
    refine hv_aload_n dX12_tellHears_75 rfl ?_
    refine hv_iconst (v := 4) dX12_tellHears_76 (by decide) ?_
    refine hv_cv1 (d_must (k := 27) (s := .inl e) (by decide) (by decide) (by decide) (tokM_of ht o12 rfl) c3) dX12_tellHears_77 ml_X12_261 mk_X12_must (by first | rfl | assumption) rfl rfl rfl rfl rfl ?_
    rintro _ _ σ4 _ ⟨rfl, rfl, rfl, d1, d2, d3⟩
    have d3' : mSt f n (.inl e) σ4 := d3
    refine hv_aload_n dX12_tellHears_80 rfl ?_
    refine hv_geti dX12_tellHears_81 fl_X12_203 (by first | rfl | assumption) rfl ?_
    refine hv_if_le (tgt := 88) dX12_tellHears_84 (by decide) (fun c_84 => absurd c_84 ((by obtain ⟨z, t⟩ := e; rw [d3'.1]; rcases d3'.2.1 with q | q <;> rw [q] <;> decide))) (fun c_84 => ?_)
    refine hv_vret dX12_tellHears_87 rfl ?_
    rw [← hQ]
    have o4 := off_tr o12 d1 (Z := [64]) (by decide) (by decide)
    exact ⟨rfl, rfl, rfl, off_wk o4 (by decide), kM_tr k12 d2 (by decide) (by decide), fun j _ => by rw [o4 80 (by decide)], by rw [hX]; exact d3', fun _ _ => o4 79 (by decide), fun b w q => by rw [hX] at q; cases q⟩
  · rw [hs2] at c3
    obtain ⟨z1, y1, q1, q2⟩ := bd_iff.mp hs2
    have q1' : tk (kd f n) 23 a = .inr (z1, y1) := q1
    obtain ⟨-, p1, rfl⟩ := tk_inr q1'
    obtain ⟨-, p2, rfl⟩ := tk_inr q2
    obtain ⟨x5, x6⟩ := a6 a u (a + 1) y1 rfl q1'
    obtain ⟨x7, x8⟩ := c6 (a + 1) y1 (a + 1 + 1) w2 q1 q2
    have e11 : σ1 64 11 = nI (a + 1) := by rw [q1] at a3; exact a3.2.1
    rw [← x5] at x6
    rw [← x7] at x8
    have hr1 : rel f n (a + 1) := by rw [q1] at a3; exact a3.2.2
    rcases o1 with _ | i
    · skip
      refine hv_aload_n dX12_tellHears_15 rfl ?_
      refine hv_geti dX12_tellHears_16 fl_X12_203 (by first | rfl | assumption) rfl ?_
      refine hv_if_ne (tgt := 34) dX12_tellHears_19 (by decide) (fun c_19 => absurd (c3.1) c_19) (fun c_19 => ?_)
      refine hv_iload_n dX12_tellHears_22 rfl ?_
      refine hv_if_lt (tgt := 34) dX12_tellHears_23 (by decide) (fun c_23 => ?_) (fun c_23 => absurd ((show (-1 : Int32) < 0 by decide)) c_23)
      refine hv_iconst (v := 0) dX12_tellHears_34 (by decide) ?_
      refine hv_istore dX12_tellHears_35 rfl rfl ?_
      refine hv_iload dX12_tellHears_37 rfl ?_
      refine hv_if_eq (tgt := 75) dX12_tellHears_39 (by decide) (fun c_39 => ?_) (fun c_39 => absurd (rfl) c_39)
      exact cont false none o2 g2 σ2 _ o12 k12 c3 c5 q1' q2 x5 x7 (by rw [x8, x6]; rcases o2 with _ | j <;> rfl) ⟨fun q => (nomatch q), fun q => (by cases q.1)⟩
    · have hi := hsN_lt hN (h + m) 0 i (by omega) x5.symm
      have h7 := hN.2.1
      rcases o2 with _ | j
      · skip
        refine hv_aload_n dX12_tellHears_15 rfl ?_
        refine hv_geti dX12_tellHears_16 fl_X12_203 (by first | rfl | assumption) rfl ?_
        refine hv_if_ne (tgt := 34) dX12_tellHears_19 (by decide) (fun c_19 => absurd (c3.1) c_19) (fun c_19 => ?_)
        refine hv_iload_n dX12_tellHears_22 rfl ?_
        refine hv_if_lt (tgt := 34) dX12_tellHears_23 (by decide) (fun c_23 => absurd c_23 ((show ¬ nI i < 0 from nI_pos (by omega)))) (fun c_23 => ?_)
        refine hv_iload_n dX12_tellHears_26 rfl ?_
        refine hv_if_lt (tgt := 34) dX12_tellHears_27 (by decide) (fun c_27 => ?_) (fun c_27 => absurd ((show (-1 : Int32) < 0 by decide)) c_27)
        refine hv_iconst (v := 0) dX12_tellHears_34 (by decide) ?_
        refine hv_istore dX12_tellHears_35 rfl rfl ?_
        refine hv_iload dX12_tellHears_37 rfl ?_
        refine hv_if_eq (tgt := 75) dX12_tellHears_39 (by decide) (fun c_39 => ?_) (fun c_39 => absurd (rfl) c_39)
        exact cont false (some i) none g2 σ2 _ o12 k12 c3 c5 q1' q2 x5 x7 (by rw [x8, x6]; rfl) ⟨fun q => (nomatch q), fun q => (by cases q.2)⟩
      · have hj := hsN_lt hN (h + m) 0 j (by omega) x7.symm
        have eg : g2 = g := by rw [x8, x6]; rfl
        rw [eg] at c5
        have f19 : σ2 64 19 = nI L := by rw [k12 19 (by decide)]; exact hL
        have iT : ∀ {w : Int32}, w = nI L → 7 * w + nI i = nI (7 * L + i) := fun q => by rw [q]; exact ix7
        have e79 : σ2 79 (7 * L + i) = σ 79 (7 * L + i) := by rw [o12 79 (by decide)]
        by_cases ij : i = j
        · have hC : i = j ∨ btI (σ 79) L i j = true := Or.inl ij
          refine hv_aload_n dX12_tellHears_15 rfl ?_
          refine hv_geti dX12_tellHears_16 fl_X12_203 (by first | rfl | assumption) rfl ?_
          refine hv_if_ne (tgt := 34) dX12_tellHears_19 (by decide) (fun c_19 => absurd (c3.1) c_19) (fun c_19 => ?_)
          refine hv_iload_n dX12_tellHears_22 rfl ?_
          refine hv_if_lt (tgt := 34) dX12_tellHears_23 (by decide) (fun c_23 => absurd c_23 ((show ¬ nI i < 0 from nI_pos (by omega)))) (fun c_23 => ?_)
          refine hv_iload_n dX12_tellHears_26 rfl ?_
          refine hv_if_lt (tgt := 34) dX12_tellHears_27 (by decide) (fun c_27 => absurd c_27 ((show ¬ nI j < 0 from nI_pos (by omega)))) (fun c_27 => ?_)
          refine hv_iconst (v := 1) dX12_tellHears_30 (by decide) ?_
          refine hv_goto (tgt := 35) dX12_tellHears_31 (by decide) ?_
          refine hv_istore dX12_tellHears_35 rfl rfl ?_
          refine hv_iload dX12_tellHears_37 rfl ?_
          refine hv_if_eq (tgt := 75) dX12_tellHears_39 (by decide) (fun c_39 => absurd c_39 ((by decide))) (fun c_39 => ?_)
          refine hv_iload_n dX12_tellHears_42 rfl ?_
          refine hv_iload_n dX12_tellHears_43 rfl ?_
          refine hv_icmp_eq (tgt := 69) dX12_tellHears_44 (by decide) (fun c_44 => ?_) (fun c_44 => absurd ((show nI i = nI j by rw [ij])) c_44)
          refine hv_aload_n dX12_tellHears_69 rfl ?_
          refine hv_iconst (v := 3) dX12_tellHears_70 (by decide) ?_
          refine hv_iload_n dX12_tellHears_71 rfl ?_
          rw [e11]
          refine hv_cv2 (d_wrong (k := 3) (t := a + 1) (g := g) rfl (Or.inl rfl) (tokM_of ht o12 rfl) hn c3.1 c5 hr1 (fun k0 t0 q => Or.inl (Nat.lt_succ_of_lt (hb k0 t0 q a u rfl)))) dX12_tellHears_72 ml_X12_283 mk_X12_wrong (by first | rfl | assumption) rfl rfl rfl rfl rfl ?_
          rintro _ _ σ3 _ ⟨rfl, rfl, rfl, d1, d2, d3⟩
          exact cont true (some i) (some j) _ σ3 _ (off_tr o12 d1 (by decide) (by decide)) (kM_tr k12 d2 (by decide) (by decide)) (mSt_of c3 (d2 11 (by decide)) (d2 13 (by decide)) (d2 14 (by decide))) d3 q1' q2 x5 x7 (if_pos hC).symm ⟨fun _ => ⟨rfl, rfl⟩, fun _ => rfl⟩
        have nij : ¬ nI i = nI j := fun q => ij ((nI_eq (by omega) (by omega)).mp q)
        by_cases bt : (σ 79 (7 * L + i) >>> (nI j &&& 31)) &&& 1 = 1
        · have hC : i = j ∨ btI (σ 79) L i j = true := Or.inr (decide_eq_true bt)
          refine hv_aload_n dX12_tellHears_15 rfl ?_
          refine hv_geti dX12_tellHears_16 fl_X12_203 (by first | rfl | assumption) rfl ?_
          refine hv_if_ne (tgt := 34) dX12_tellHears_19 (by decide) (fun c_19 => absurd (c3.1) c_19) (fun c_19 => ?_)
          refine hv_iload_n dX12_tellHears_22 rfl ?_
          refine hv_if_lt (tgt := 34) dX12_tellHears_23 (by decide) (fun c_23 => absurd c_23 ((show ¬ nI i < 0 from nI_pos (by omega)))) (fun c_23 => ?_)
          refine hv_iload_n dX12_tellHears_26 rfl ?_
          refine hv_if_lt (tgt := 34) dX12_tellHears_27 (by decide) (fun c_27 => absurd c_27 ((show ¬ nI j < 0 from nI_pos (by omega)))) (fun c_27 => ?_)
          refine hv_iconst (v := 1) dX12_tellHears_30 (by decide) ?_
          refine hv_goto (tgt := 35) dX12_tellHears_31 (by decide) ?_
          refine hv_istore dX12_tellHears_35 rfl rfl ?_
          refine hv_iload dX12_tellHears_37 rfl ?_
          refine hv_if_eq (tgt := 75) dX12_tellHears_39 (by decide) (fun c_39 => absurd c_39 ((by decide))) (fun c_39 => ?_)
          refine hv_iload_n dX12_tellHears_42 rfl ?_
          refine hv_iload_n dX12_tellHears_43 rfl ?_
          refine hv_icmp_eq (tgt := 69) dX12_tellHears_44 (by decide) (fun c_44 => absurd c_44 (nij)) (fun c_44 => ?_)
          refine hv_aload_n dX12_tellHears_47 rfl ?_
          refine hv_getr dX12_tellHears_48 fl_X12_61 (by first | rfl | assumption) rfl (by first | rfl | assumption) ?_
          refine hv_bipush (v := 7) dX12_tellHears_51 (by decide) ?_
          refine hv_aload_n dX12_tellHears_53 rfl ?_
          refine hv_geti dX12_tellHears_54 fl_X12_236 (by first | rfl | assumption) rfl ?_
          refine hv_imul dX12_tellHears_57 ?_
          refine hv_iload_n dX12_tellHears_58 rfl ?_
          refine hv_iadd dX12_tellHears_59 ?_
          refine hv_iald dX12_tellHears_60 (by first | rfl | assumption) (j := 7 * L + i) (iT f19) (by omega) (by first | decide | assumption) ?_
          refine hv_iload_n dX12_tellHears_61 rfl ?_
          refine hv_ishr dX12_tellHears_62 ?_
          refine hv_iconst (v := 1) dX12_tellHears_63 (by decide) ?_
          refine hv_iand dX12_tellHears_64 ?_
          refine hv_iconst (v := 1) dX12_tellHears_65 (by decide) ?_
          refine hv_icmp_ne (tgt := 75) dX12_tellHears_66 (by decide) (fun c_66 => absurd ((by rw [e79]; exact bt)) c_66) (fun c_66 => ?_)
          refine hv_aload_n dX12_tellHears_69 rfl ?_
          refine hv_iconst (v := 3) dX12_tellHears_70 (by decide) ?_
          refine hv_iload_n dX12_tellHears_71 rfl ?_
          rw [e11]
          refine hv_cv2 (d_wrong (k := 3) (t := a + 1) (g := g) rfl (Or.inl rfl) (tokM_of ht o12 rfl) hn c3.1 c5 hr1 (fun k0 t0 q => Or.inl (Nat.lt_succ_of_lt (hb k0 t0 q a u rfl)))) dX12_tellHears_72 ml_X12_283 mk_X12_wrong (by first | rfl | assumption) rfl rfl rfl rfl rfl ?_
          rintro _ _ σ3 _ ⟨rfl, rfl, rfl, d1, d2, d3⟩
          exact cont true (some i) (some j) _ σ3 _ (off_tr o12 d1 (by decide) (by decide)) (kM_tr k12 d2 (by decide) (by decide)) (mSt_of c3 (d2 11 (by decide)) (d2 13 (by decide)) (d2 14 (by decide))) d3 q1' q2 x5 x7 (if_pos hC).symm ⟨fun _ => ⟨rfl, rfl⟩, fun _ => rfl⟩
        · have hC : ¬ (i = j ∨ btI (σ 79) L i j = true) := fun q => q.elim ij (fun z => bt (of_decide_eq_true z))
          refine hv_aload_n dX12_tellHears_15 rfl ?_
          refine hv_geti dX12_tellHears_16 fl_X12_203 (by first | rfl | assumption) rfl ?_
          refine hv_if_ne (tgt := 34) dX12_tellHears_19 (by decide) (fun c_19 => absurd (c3.1) c_19) (fun c_19 => ?_)
          refine hv_iload_n dX12_tellHears_22 rfl ?_
          refine hv_if_lt (tgt := 34) dX12_tellHears_23 (by decide) (fun c_23 => absurd c_23 ((show ¬ nI i < 0 from nI_pos (by omega)))) (fun c_23 => ?_)
          refine hv_iload_n dX12_tellHears_26 rfl ?_
          refine hv_if_lt (tgt := 34) dX12_tellHears_27 (by decide) (fun c_27 => absurd c_27 ((show ¬ nI j < 0 from nI_pos (by omega)))) (fun c_27 => ?_)
          refine hv_iconst (v := 1) dX12_tellHears_30 (by decide) ?_
          refine hv_goto (tgt := 35) dX12_tellHears_31 (by decide) ?_
          refine hv_istore dX12_tellHears_35 rfl rfl ?_
          refine hv_iload dX12_tellHears_37 rfl ?_
          refine hv_if_eq (tgt := 75) dX12_tellHears_39 (by decide) (fun c_39 => absurd c_39 ((by decide))) (fun c_39 => ?_)
          refine hv_iload_n dX12_tellHears_42 rfl ?_
          refine hv_iload_n dX12_tellHears_43 rfl ?_
          refine hv_icmp_eq (tgt := 69) dX12_tellHears_44 (by decide) (fun c_44 => absurd c_44 (nij)) (fun c_44 => ?_)
          refine hv_aload_n dX12_tellHears_47 rfl ?_
          refine hv_getr dX12_tellHears_48 fl_X12_61 (by first | rfl | assumption) rfl (by first | rfl | assumption) ?_
          refine hv_bipush (v := 7) dX12_tellHears_51 (by decide) ?_
          refine hv_aload_n dX12_tellHears_53 rfl ?_
          refine hv_geti dX12_tellHears_54 fl_X12_236 (by first | rfl | assumption) rfl ?_
          refine hv_imul dX12_tellHears_57 ?_
          refine hv_iload_n dX12_tellHears_58 rfl ?_
          refine hv_iadd dX12_tellHears_59 ?_
          refine hv_iald dX12_tellHears_60 (by first | rfl | assumption) (j := 7 * L + i) (iT f19) (by omega) (by first | decide | assumption) ?_
          refine hv_iload_n dX12_tellHears_61 rfl ?_
          refine hv_ishr dX12_tellHears_62 ?_
          refine hv_iconst (v := 1) dX12_tellHears_63 (by decide) ?_
          refine hv_iand dX12_tellHears_64 ?_
          refine hv_iconst (v := 1) dX12_tellHears_65 (by decide) ?_
          refine hv_icmp_ne (tgt := 75) dX12_tellHears_66 (by decide) (fun c_66 => ?_) (fun c_66 => absurd c_66 ((by rw [e79]; exact bt)))
          exact cont true (some i) (some j) _ σ2 _ o12 k12 c3 c5 q1' q2 x5 x7 (if_neg hC).symm ⟨fun _ => ⟨rfl, rfl⟩, fun _ => rfl⟩
end S98

