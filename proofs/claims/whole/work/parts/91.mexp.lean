/-- the row of waiting signs as it can be -/
def wfW : List Nat → Prop
  | [] => True
  | w :: W => wfW W ∧ (w = 34 ∨ ((w = 29 ∨ w = 30) ∧ top W = 34) ∨ ((w = 31 ∨ w = 32) ∧ top W ≠ 31 ∧ top W ≠ 32))
theorem wf_is : ∀ {W : List Nat}, wfW W → ∀ w, w ∈ W → isW w
  | [], _, w, h => by cases h
  | z :: W, ⟨h1, h2⟩, w, h => by
    rcases List.mem_cons.mp h with rfl | h
    · unfold isW; omega
    · exact wf_is h1 w h
theorem wf_top {W : List Nat} (h : wfW W) : isW (top W) := by
  cases W with
  | nil => unfold isW; exact Or.inr (Or.inr (Or.inr (Or.inr rfl)))
  | cons w W => exact wf_is h w (List.mem_cons_self ..)
theorem wf_len : ∀ {W : List Nat}, wfW W → W.length ≤ 3 * opn W + (if top W = 34 then 0 else if top W = 29 ∨ top W = 30 then 1 else 2) ∧ opn W ≤ W.length
  | [], _ => ⟨by decide, by decide⟩
  | w :: W, ⟨h1, h2⟩ => by
    have ih := wf_len h1
    have ht := wf_top h1
    have e : top (w :: W) = w := rfl
    rw [e, List.length_cons]
    rcases h2 with rfl | ⟨h2, h3⟩ | ⟨h2, h3, h4⟩
    · have e2 : opn (34 :: W) = opn W + 1 := if_pos rfl
      rw [e2, if_pos rfl]
      have : (if top W = 34 then 0 else if top W = 29 ∨ top W = 30 then 1 else 2) ≤ 2 := by
        repeat' split
        all_goals omega
      omega
    · rw [opn_n (by omega), if_neg (by omega), if_pos h2]
      rw [if_pos h3] at ih
      omega
    · rw [opn_n (by omega), if_neg (by omega), if_neg (by omega)]
      unfold isW at ht
      have : (if top W = 34 then 0 else if top W = 29 ∨ top W = 30 then 1 else 2) ≤ 1 := by
        split
        · omega
        · rw [if_pos (by omega)]; omega
      omega
theorem fl_all {s : Bool} : ∀ {W : List Nat} {c : hCd}, wfW W → wfW (flA s W c).1 ∧ opn (flA s W c).1 = opn W ∧ (flA s W c).2.length + (flA s W c).1.length = c.length + W.length ∧ (s = false → top (flA s W c).1 = 34) ∧ top (flA s W c).1 ≠ 31 ∧ top (flA s W c).1 ≠ 32
  | [], c, _ => ⟨trivial, rfl, rfl, fun _ => rfl, by show (34 : Nat) ≠ 31; decide, by show (34 : Nat) ≠ 32; decide⟩
  | w :: W, c, h => by
    have e : flA s (w :: W) c = if w = 34 ∨ (s = true ∧ (w = 29 ∨ w = 30)) then (w :: W, c) else flA s W (c ++ [opc w]) := rfl
    rw [e]
    by_cases q : w = 34 ∨ (s = true ∧ (w = 29 ∨ w = 30))
    · rw [if_pos q]
      refine ⟨h, rfl, rfl, fun z => ?_, ?_, ?_⟩
      · show w = 34
        rcases q with q | q
        · exact q
        · rw [z] at q; cases q.1
      · show w ≠ 31; omega
      · show w ≠ 32; omega
    · rw [if_neg q]
      have ih := fl_all (s := s) (W := W) (c := c ++ [opc w]) h.1
      refine ⟨ih.1, by rw [ih.2.1, opn_n (fun z => q (Or.inl z))], ?_, ih.2.2.2⟩
      rw [ih.2.2.1, List.length_append, List.length_singleton, List.length_cons]; omega
theorem cons_34 {Z : List Nat} (h1 : top Z = 34) (h2 : 0 < opn Z) : Z = 34 :: Z.tail := by
  cases Z with
  | nil => exact absurd h2 (by decide)
  | cons w Z => rw [show w = 34 from h1]; rfl
theorem isM_t {f : hF} {n k a : Nat} {u : Unit} (h : kd f n a = k) : isM f n k (.inr (a, u)) = true := decide_eq_true h
theorem isM_f {f : hF} {n k a : Nat} {u : Unit} (h : kd f n a ≠ k) : isM f n k (.inr (a, u)) = false := decide_eq_false h
theorem kap_var : ∀ k, k < 36 → (14 ≤ k ∧ k ≤ 22 → nI (kap k) - 34 = nI (k - 14) ∧ ¬ nI (kap k) < 34) ∧ (¬ (14 ≤ k ∧ k ≤ 22) → nI (kap k) < 34) ∧ ¬ 42 < nI (kap k) := by decide +kernel
theorem wAt_ext {A A' : hF} {q : Nat} : ∀ {W : List Nat}, W.length ≤ q → (∀ j, j < q → A' j = A j) → wAt A W → wAt A' W
  | [], _, _, _ => trivial
  | w :: W, hq, h, ⟨h1, h2⟩ => ⟨(h W.length (by rw [List.length_cons] at hq; omega)).trans h1, wAt_ext (by rw [List.length_cons] at hq; omega) h h2⟩
section S91
variable {G : hGl} {σ : hS} {τ : hT} {x y : Option Nat}
theorem d_unitF {f : hF} {n : Nat} {e : Nat × Nat} (ht : tokM f n σ τ) (hs : mSt f n (.inl e) σ) : hCal G (m_X12_unit (hQp [64] none (rr 38 51 x y) σ τ (fun σ' => kM [13, 14] σ σ' ∧ mSt f n (.inl e) σ'))) [.ref (hgA G 64)] shp (rr 38 51 x y) σ τ := by
  obtain ⟨z, t⟩ := e
  have hs' := hs
  obtain ⟨h1, h2, h3⟩ := hs
  refine hv_enter pn_X12 rfl ?_
  refine hv_aload_n dX12_unit_0 rfl ?_
  refine hv_iconst (v := 2) dX12_unit_1 (by decide) ?_
  refine hv_cv1 (d_is (k := 24) (by decide) (by decide) ht hs') dX12_unit_2 ml_X12_221 mk_X12_is (by first | rfl | assumption) rfl rfl rfl rfl rfl ?_
  rintro _ _ _ _ ⟨rfl, rfl, rfl, rfl⟩
  refine hv_if_eq (tgt := 29) dX12_unit_5 (by decide) (fun c_5 => ?_) (fun c_5 => absurd ((show bI false = 0 by decide)) c_5)
  refine hv_aload_n dX12_unit_29 rfl ?_
  refine hv_geti dX12_unit_30 fl_X12_203 (by first | rfl | assumption) rfl ?_
  refine hv_if_ne (tgt := 88) dX12_unit_33 (by decide) (fun c_33 => ?_) (fun c_33 => absurd c_33 ((by rw [h1]; exact nI_ne0 (by omega) (by omega))))
  refine hv_aload_n dX12_unit_88 rfl ?_
  refine hv_iconst (v := 1) dX12_unit_89 (by decide) ?_
  refine hv_cv1 (d_fail (k := 1) rfl (Or.inl rfl) ht hs') dX12_unit_90 ml_X12_218 mk_X12_fail (by first | rfl | assumption) rfl rfl rfl rfl rfl ?_
  rintro _ _ σ1 _ ⟨rfl, rfl, rfl, a1, a2, a3⟩
  refine hv_vret dX12_unit_93 rfl ?_
  exact ⟨rfl, rfl, rfl, a1, a2, a3⟩
theorem d_unitN {f : hF} {n a : Nat} {u : Unit} (ht : tokM f n σ τ) (hs : mSt f n (.inr (a, u)) σ) (h24 : kd f n a ≠ 24) (hv : ¬ (14 ≤ kd f n a ∧ kd f n a ≤ 22)) : hCal G (m_X12_unit (hQp [64] none (rr 38 51 x y) σ τ (fun σ' => kM [13, 14] σ σ' ∧ mSt f n (.inl (1, a)) σ'))) [.ref (hgA G 64)] shp (rr 38 51 x y) σ τ := by
  have hs' := hs
  obtain ⟨h1, h2, h3⟩ := hs
  have ha := h3.1
  have hkl := kd_le f n a
  have hp := kap_var (kd f n a) (by omega)
  have e67 := (ht a h3).1
  refine hv_enter pn_X12 rfl ?_
  refine hv_aload_n dX12_unit_0 rfl ?_
  refine hv_iconst (v := 2) dX12_unit_1 (by decide) ?_
  refine hv_cv1 (d_is (k := 24) (by decide) (by decide) ht hs') dX12_unit_2 ml_X12_221 mk_X12_is (by first | rfl | assumption) rfl rfl rfl rfl rfl ?_
  rintro _ _ _ _ ⟨rfl, rfl, rfl, rfl⟩
  rw [isM_f h24]
  refine hv_if_eq (tgt := 29) dX12_unit_5 (by decide) (fun c_5 => ?_) (fun c_5 => absurd ((show bI false = 0 by decide)) c_5)
  refine hv_aload_n dX12_unit_29 rfl ?_
  refine hv_geti dX12_unit_30 fl_X12_203 (by first | rfl | assumption) rfl ?_
  refine hv_if_ne (tgt := 88) dX12_unit_33 (by decide) (fun c_33 => absurd (h1) c_33) (fun c_33 => ?_)
  refine hv_aload_n dX12_unit_36 rfl ?_
  refine hv_getr dX12_unit_37 fl_X12_20 (by first | rfl | assumption) rfl (by first | rfl | assumption) ?_
  refine hv_aload_n dX12_unit_40 rfl ?_
  refine hv_geti dX12_unit_41 fl_X12_206 (by first | rfl | assumption) rfl ?_
  refine hv_iald dX12_unit_44 (by first | rfl | assumption) (j := a) h2 (by omega) (by first | decide | assumption) ?_
  refine hv_bipush (v := 34) dX12_unit_45 (by decide) ?_
  refine hv_icmp_lt (tgt := 88) dX12_unit_47 (by decide) (fun c_47 => ?_) (fun c_47 => absurd ((by rw [e67]; exact hp.2.1 hv)) c_47)
  refine hv_aload_n dX12_unit_88 rfl ?_
  refine hv_iconst (v := 1) dX12_unit_89 (by decide) ?_
  refine hv_cv1 (d_fail (k := 1) rfl (Or.inl rfl) ht hs') dX12_unit_90 ml_X12_218 mk_X12_fail (by first | rfl | assumption) rfl rfl rfl rfl rfl ?_
  rintro _ _ σ1 _ ⟨rfl, rfl, rfl, a1, a2, a3⟩
  refine hv_vret dX12_unit_93 rfl ?_
  exact ⟨rfl, rfl, rfl, a1, a2, a3⟩
theorem d_unitL {f : hF} {n a p0 hi : Nat} {u : Unit} {W : List Nat} {c : hCd} {k o : Int32} (ht : tokM f n σ τ) (hs : mSt f n (.inr (a, u)) σ) (hK : (kd f n a = 24 ∧ k = 0 ∧ o = nI (vl f n a)) ∨ ((14 ≤ kd f n a ∧ kd f n a ≤ 22) ∧ k = 1 ∧ o = nI (kd f n a - 14))) (hy : yW p0 W c σ) (hb : p0 + c.length < hi) (hh : hi ≤ 840) : hCal G (m_X12_unit (hQp [64, 93, 94] none (rr 38 51 x y) σ τ (fun σ' => kM [11, 13, 14, 43] σ σ' ∧ mSt f n (pass a) σ' ∧ yW p0 W (c ++ [(k, o)]) σ' ∧ cdF (p0 + c.length) hi σ σ'))) [.ref (hgA G 64)] shp (rr 38 51 x y) σ τ := by
  have hs' := hs
  obtain ⟨h1, h2, h3⟩ := hs
  have ha := h3.1
  have hkl := kd_le f n a
  have hp := kap_var (kd f n a) (by omega)
  have e67 := (ht a h3).1
  have g := yW_em (hi := hi) (k := k) (o := o) hy hb
  have g1 : mSt f n (.inr (a, u)) (emS (p0 + c.length) k o σ) := mSt_of hs' (g.2.2 11 (by decide)) (g.2.2 13 (by decide)) (g.2.2 14 (by decide))
  have gσ : ∀ j, j ∉ [64, 93, 94] → emS (p0 + c.length) k o σ j = σ j := off_up (off_up (off_up (fun _ _ => rfl) (by decide)) (by decide)) (by decide)
  have fin : ∀ σ1 : hS, (∀ j, j ∉ [64] → σ1 j = emS (p0 + c.length) k o σ j) → kM [11, 13, 14] (emS (p0 + c.length) k o σ) σ1 → mSt f n (bd (.inr (a, u)) (fun a _ => pass a)) σ1 → hQp [64, 93, 94] none (rr 38 51 x y) σ τ (fun σ' => kM [11, 13, 14, 43] σ σ' ∧ mSt f n (pass a) σ' ∧ yW p0 W (c ++ [(k, o)]) σ' ∧ cdF (p0 + c.length) hi σ σ') none (rr 38 51 x y) σ1 τ := by
    intro σ1 a1 a2 a3
    refine ⟨rfl, rfl, rfl, off_tr gσ a1 (by decide) (by decide), kM_tr g.2.2 a2 (by decide) (by decide), a3, ?_, ?_⟩
    · obtain ⟨y1, y2, y3, y4⟩ := g.1
      exact ⟨by rw [a2 47 (by decide)]; exact y1, by rw [a1 95 (by decide)]; exact y2, by rw [a2 43 (by decide)]; exact y3, by rw [a1 93 (by decide), a1 94 (by decide)]; exact y4⟩
    · exact cdF_tr g.2.1 (cdF_e (a1 93 (by decide)) (a1 94 (by decide))) (Nat.le_refl _)
  refine hv_enter pn_X12 rfl ?_
  rcases hK with ⟨k1, rfl, rfl⟩ | ⟨k1, rfl, rfl⟩
  · skip
    refine hv_aload_n dX12_unit_0 rfl ?_
    refine hv_iconst (v := 2) dX12_unit_1 (by decide) ?_
    refine hv_cv1 (d_is (k := 24) (by decide) (by decide) ht hs') dX12_unit_2 ml_X12_221 mk_X12_is (by first | rfl | assumption) rfl rfl rfl rfl rfl ?_
    rintro _ _ _ _ ⟨rfl, rfl, rfl, rfl⟩
    rw [isM_t k1]
    refine hv_if_eq (tgt := 29) dX12_unit_5 (by decide) (fun c_5 => absurd c_5 ((show ¬ bI true = 0 by decide))) (fun c_5 => ?_)
    refine hv_aload_n dX12_unit_8 rfl ?_
    refine hv_iconst (v := 0) dX12_unit_9 (by decide) ?_
    refine hv_aload_n dX12_unit_10 rfl ?_
    refine hv_getr dX12_unit_11 fl_X12_27 (by first | rfl | assumption) rfl (by first | rfl | assumption) ?_
    refine hv_aload_n dX12_unit_14 rfl ?_
    refine hv_geti dX12_unit_15 fl_X12_206 (by first | rfl | assumption) rfl ?_
    refine hv_iald dX12_unit_18 (by first | rfl | assumption) (j := a) h2 (by omega) (by first | decide | assumption) ?_
    rw [(ht a h3).2.2.1 k1]
    refine hv_cv2 (d_emit hy.2.2.1 (by omega)) dX12_unit_19 ml_X12_305 mk_X12_emit (by first | rfl | assumption) rfl rfl rfl rfl rfl ?_
    rintro _ _ _ _ ⟨rfl, rfl, rfl, rfl⟩
    refine hv_aload_n dX12_unit_22 rfl ?_
    refine hv_cv0 (d_goesOn (tokM_of ht gσ rfl) g1 (fun b w q => by cases q; omega)) dX12_unit_23 ml_X12_224 mk_X12_goesOn (by first | rfl | assumption) rfl rfl rfl rfl rfl ?_
    rintro _ _ σ1 _ ⟨rfl, rfl, rfl, a1, a2, a3⟩
    refine hv_goto (tgt := 93) dX12_unit_26 (by decide) ?_
    refine hv_vret dX12_unit_93 rfl ?_
    exact fin σ1 a1 a2 a3
  · skip
    refine hv_aload_n dX12_unit_0 rfl ?_
    refine hv_iconst (v := 2) dX12_unit_1 (by decide) ?_
    refine hv_cv1 (d_is (k := 24) (by decide) (by decide) ht hs') dX12_unit_2 ml_X12_221 mk_X12_is (by first | rfl | assumption) rfl rfl rfl rfl rfl ?_
    rintro _ _ _ _ ⟨rfl, rfl, rfl, rfl⟩
    rw [isM_f (by omega)]
    refine hv_if_eq (tgt := 29) dX12_unit_5 (by decide) (fun c_5 => ?_) (fun c_5 => absurd ((show bI false = 0 by decide)) c_5)
    refine hv_aload_n dX12_unit_29 rfl ?_
    refine hv_geti dX12_unit_30 fl_X12_203 (by first | rfl | assumption) rfl ?_
    refine hv_if_ne (tgt := 88) dX12_unit_33 (by decide) (fun c_33 => absurd (h1) c_33) (fun c_33 => ?_)
    refine hv_aload_n dX12_unit_36 rfl ?_
    refine hv_getr dX12_unit_37 fl_X12_20 (by first | rfl | assumption) rfl (by first | rfl | assumption) ?_
    refine hv_aload_n dX12_unit_40 rfl ?_
    refine hv_geti dX12_unit_41 fl_X12_206 (by first | rfl | assumption) rfl ?_
    refine hv_iald dX12_unit_44 (by first | rfl | assumption) (j := a) h2 (by omega) (by first | decide | assumption) ?_
    refine hv_bipush (v := 34) dX12_unit_45 (by decide) ?_
    refine hv_icmp_lt (tgt := 88) dX12_unit_47 (by decide) (fun c_47 => absurd c_47 ((by rw [e67]; exact (hp.1 k1).2))) (fun c_47 => ?_)
    refine hv_aload_n dX12_unit_50 rfl ?_
    refine hv_getr dX12_unit_51 fl_X12_20 (by first | rfl | assumption) rfl (by first | rfl | assumption) ?_
    refine hv_aload_n dX12_unit_54 rfl ?_
    refine hv_geti dX12_unit_55 fl_X12_206 (by first | rfl | assumption) rfl ?_
    refine hv_iald dX12_unit_58 (by first | rfl | assumption) (j := a) h2 (by omega) (by first | decide | assumption) ?_
    refine hv_bipush (v := 42) dX12_unit_59 (by decide) ?_
    refine hv_icmp_gt (tgt := 88) dX12_unit_61 (by decide) (fun c_61 => absurd c_61 ((by rw [e67]; exact hp.2.2))) (fun c_61 => ?_)
    refine hv_aload_n dX12_unit_64 rfl ?_
    refine hv_iconst (v := 1) dX12_unit_65 (by decide) ?_
    refine hv_aload_n dX12_unit_66 rfl ?_
    refine hv_getr dX12_unit_67 fl_X12_20 (by first | rfl | assumption) rfl (by first | rfl | assumption) ?_
    refine hv_aload_n dX12_unit_70 rfl ?_
    refine hv_geti dX12_unit_71 fl_X12_206 (by first | rfl | assumption) rfl ?_
    refine hv_iald dX12_unit_74 (by first | rfl | assumption) (j := a) h2 (by omega) (by first | decide | assumption) ?_
    refine hv_bipush (v := 34) dX12_unit_75 (by decide) ?_
    refine hv_isub dX12_unit_77 ?_
    rw [e67, (hp.1 k1).1]
    refine hv_cv2 (d_emit hy.2.2.1 (by omega)) dX12_unit_78 ml_X12_305 mk_X12_emit (by first | rfl | assumption) rfl rfl rfl rfl rfl ?_
    rintro _ _ _ _ ⟨rfl, rfl, rfl, rfl⟩
    refine hv_aload_n dX12_unit_81 rfl ?_
    refine hv_cv0 (d_goesOn (tokM_of ht gσ rfl) g1 (fun b w q => by cases q; omega)) dX12_unit_82 ml_X12_224 mk_X12_goesOn (by first | rfl | assumption) rfl rfl rfl rfl rfl ?_
    rintro _ _ σ1 _ ⟨rfl, rfl, rfl, a1, a2, a3⟩
    refine hv_goto (tgt := 93) dX12_unit_85 (by decide) ?_
    refine hv_vret dX12_unit_93 rfl ?_
    exact fin σ1 a1 a2 a3
abbrev xYd : List Nat := [64, 93, 94, 95]
abbrev fEx : List Nat := [11, 12, 13, 14, 43, 47]
def pExM (f : hF) (n p0 hi : Nat) (R : hPR hCd) (σ σ' : hS) : Prop := kM fEx σ σ' ∧ cdF p0 hi σ σ' ∧ mSt f n (stR R) σ' ∧ ∀ b d, R = .inr (b, d) → σ' 64 43 = nI (p0 + d.length) ∧ cdAt (σ' 93) (σ' 94) p0 d ∧ σ' 64 12 = 0
/-- in the middle of an E -/
def inE (p0 a0 a hi : Nat) (W : List Nat) (c : hCd) (σ σ1 : hS) : Prop := yW p0 W c σ1 ∧ wfW W ∧ opn W ≤ 6 ∧ σ1 64 12 = nI (opn W) ∧ c.length + W.length + a0 ≤ a + opn W ∧ (∀ k, k ∉ xYd → σ1 k = σ k) ∧ kM fEx σ σ1 ∧ cdF p0 hi σ σ1
theorem inE_m {p0 a0 a a' hi : Nat} {W : List Nat} {c : hCd} {σ σ1 σ2 : hS} (h : inE p0 a0 a hi W c σ σ1) (h1 : ∀ k, k ∉ [64] → σ2 k = σ1 k) (h2 : kM [11, 13, 14] σ1 σ2) (ha : a ≤ a') : inE p0 a0 a' hi W c σ σ2 := by
  obtain ⟨⟨y1, y2, y3, y4⟩, i2, i3, i4, i5, i6, i7, i8⟩ := h
  exact ⟨⟨by rw [h2 47 (by decide)]; exact y1, by rw [h1 95 (by decide)]; exact y2, by rw [h2 43 (by decide)]; exact y3, by rw [h1 93 (by decide), h1 94 (by decide)]; exact y4⟩, i2, i3, by rw [h2 12 (by decide)]; exact i4, by omega, off_tr i6 h1 (by decide) (by decide), kM_tr i7 h2 (by decide) (by decide), cdF_tr i8 (cdF_e (h1 93 (by decide)) (h1 94 (by decide))) (Nat.le_refl _)⟩
theorem d_expression {f : hF} {n p0 a0 hi : Nat} {u : Unit} (ht : tokM f n σ τ) (hs : mSt f n (.inr (a0, u)) σ) (hp : σ 64 43 = nI p0) (ho : σ 64 12 = 0) (hb : p0 + 407 ≤ hi + a0) (hh : hi ≤ 840) : hCal G (m_X12_expression (hQp xYd none (rr 38 51 x y) σ τ (pExM f n p0 hi (eX (kd f n) (vl f n) a0) σ))) [.ref (hgA G 64)] shp (rr 38 51 x y) σ τ := by
  obtain ⟨N, hN⟩ := eX_ev (kd f n) (vl f n) hs.2.2.1
  generalize eX (kd f n) (vl f n) a0 = R at hN ⊢
  refine hv_enter pn_X12 rfl ?_
  generalize hQ : hQp xYd none (rr 38 51 x y) σ τ (pExM f n p0 hi R σ) = Q
  have out : ∀ (e : Nat × Nat) (σ1 : hS), R = .inl e → (∀ k, k ∉ xYd → σ1 k = σ k) → kM fEx σ σ1 → cdF p0 hi σ σ1 → mSt f n (.inl e) σ1 → Q none (rr 38 51 x y) σ1 τ := by
    intro e σ1 hR h1 h2 h3 h4
    subst hR
    rw [← hQ]
    exact ⟨rfl, rfl, rfl, h1, h2, h3, h4, fun b d q => by cases q⟩
  have fx23 : ∀ (e : Nat × Nat) (σ1 : hS), R = .inl e → (∀ k, k ∉ xYd → σ1 k = σ k) → kM fEx σ σ1 → cdF p0 hi σ σ1 → mSt f n (.inl e) σ1 → hV G (m_X12_expression Q) 0 0 shp 23 [some (.ref (hgA G 64)), some (.int 0), some (.int 1)] [] (rr 38 51 x y) σ1 τ := by
    intro e σ1 hR h1 h2 h3 h4
    have t1 := tokM_of ht h1 rfl
    refine hv_aload_n dX12_expression_23 rfl ?_
    refine hv_bipush (v := 6) dX12_expression_24 (by decide) ?_
    refine hv_cv1 (d_is (k := 34) (by decide) (by decide) t1 h4) dX12_expression_26 ml_X12_221 mk_X12_is (by first | rfl | assumption) rfl rfl rfl rfl rfl ?_
    rintro _ _ _ _ ⟨rfl, rfl, rfl, rfl⟩
    refine hv_if_eq (tgt := 84) dX12_expression_29 (by decide) (fun c_29 => ?_) (fun c_29 => absurd ((show bI false = 0 by decide)) c_29)
    refine hv_aload_n dX12_expression_84 rfl ?_
    refine hv_cv0 (d_unitF t1 h4) dX12_expression_85 ml_X12_308 mk_X12_unit (by first | rfl | assumption) rfl rfl rfl rfl rfl ?_
    rintro _ _ σ2 _ ⟨rfl, rfl, rfl, a1, a2, a3⟩
    refine hv_aload_n dX12_expression_88 rfl ?_
    refine hv_geti dX12_expression_89 fl_X12_203 (by first | rfl | assumption) rfl ?_
    refine hv_if_le (tgt := 96) dX12_expression_92 (by decide) (fun c_92 => absurd c_92 ((by obtain ⟨x, t⟩ := e; rw [a3.1]; rcases a3.2.1 with q | q <;> rw [q] <;> decide))) (fun c_92 => ?_)
    refine hv_vret dX12_expression_95 rfl ?_
    exact out e σ2 hR (off_tr h1 a1 (by decide) (by decide)) (kM_tr h2 a2 (by decide) (by decide)) (cdF_tr h3 (cdF_e (a1 93 (by decide)) (a1 94 (by decide))) (Nat.le_refl _)) a3
  have fx96 : ∀ (e : Nat × Nat) (σ1 : hS) a W c, R = .inl e → a ≤ 400 → inE p0 a0 a hi W c σ σ1 → mSt f n (.inl e) σ1 → hV G (m_X12_expression Q) 0 0 shp 96 [some (.ref (hgA G 64)), some (.int 0), some (.int 1)] [] (rr 38 51 x y) σ1 τ := by
    intro e σ1 a W c hR ha hi1 h4
    obtain ⟨i1, i2, i3, i4, i5, i6, i7, i8⟩ := hi1
    have t1 := tokM_of ht i6 rfl
    have wl := wf_len i2
    have wl2 : (if top W = 34 then 0 else if top W = 29 ∨ top W = 30 then 1 else 2) ≤ 2 := by
      repeat' split
      all_goals omega
    by_cases o0 : opn W = 0
    · skip
      refine hv_aload_n dX12_expression_96 rfl ?_
      refine hv_bipush (v := 7) dX12_expression_97 (by decide) ?_
      refine hv_cv1 (d_is (k := 35) (by decide) (by decide) t1 h4) dX12_expression_99 ml_X12_221 mk_X12_is (by first | rfl | assumption) rfl rfl rfl rfl rfl ?_
      rintro _ _ _ _ ⟨rfl, rfl, rfl, rfl⟩
      refine hv_if_eq (tgt := 145) dX12_expression_102 (by decide) (fun c_102 => ?_) (fun c_102 => absurd ((show bI false = 0 by decide)) c_102)
      refine hv_aload_n dX12_expression_145 rfl ?_
      refine hv_bipush (v := 8) dX12_expression_146 (by decide) ?_
      refine hv_cv1 (d_is (k := 29) (by decide) (by decide) t1 h4) dX12_expression_148 ml_X12_221 mk_X12_is (by first | rfl | assumption) rfl rfl rfl rfl rfl ?_
      rintro _ _ _ _ ⟨rfl, rfl, rfl, rfl⟩
      refine hv_if_ne (tgt := 181) dX12_expression_151 (by decide) (fun c_151 => absurd ((show bI false = 0 by decide)) c_151) (fun c_151 => ?_)
      refine hv_aload_n dX12_expression_154 rfl ?_
      refine hv_bipush (v := 9) dX12_expression_155 (by decide) ?_
      refine hv_cv1 (d_is (k := 30) (by decide) (by decide) t1 h4) dX12_expression_157 ml_X12_221 mk_X12_is (by first | rfl | assumption) rfl rfl rfl rfl rfl ?_
      rintro _ _ _ _ ⟨rfl, rfl, rfl, rfl⟩
      refine hv_if_ne (tgt := 181) dX12_expression_160 (by decide) (fun c_160 => absurd ((show bI false = 0 by decide)) c_160) (fun c_160 => ?_)
      refine hv_aload_n dX12_expression_163 rfl ?_
      refine hv_bipush (v := 10) dX12_expression_164 (by decide) ?_
      refine hv_cv1 (d_is (k := 31) (by decide) (by decide) t1 h4) dX12_expression_166 ml_X12_221 mk_X12_is (by first | rfl | assumption) rfl rfl rfl rfl rfl ?_
      rintro _ _ _ _ ⟨rfl, rfl, rfl, rfl⟩
      refine hv_if_ne (tgt := 181) dX12_expression_169 (by decide) (fun c_169 => absurd ((show bI false = 0 by decide)) c_169) (fun c_169 => ?_)
      refine hv_aload_n dX12_expression_172 rfl ?_
      refine hv_bipush (v := 15) dX12_expression_173 (by decide) ?_
      refine hv_cv1 (d_is (k := 32) (by decide) (by decide) t1 h4) dX12_expression_175 ml_X12_221 mk_X12_is (by first | rfl | assumption) rfl rfl rfl rfl rfl ?_
      rintro _ _ _ _ ⟨rfl, rfl, rfl, rfl⟩
      refine hv_if_eq (tgt := 185) dX12_expression_178 (by decide) (fun c_178 => ?_) (fun c_178 => absurd ((show bI false = 0 by decide)) c_178)
      refine hv_iconst (v := 0) dX12_expression_185 (by decide) ?_
      refine hv_istore_n dX12_expression_186 rfl rfl ?_
      refine hv_iload_n dX12_expression_187 rfl ?_
      refine hv_if_ne (tgt := 210) dX12_expression_188 (by decide) (fun c_188 => absurd (rfl) c_188) (fun c_188 => ?_)
      refine hv_aload_n dX12_expression_191 rfl ?_
      refine hv_geti dX12_expression_192 fl_X12_230 (by first | rfl | assumption) rfl ?_
      refine hv_iload_n dX12_expression_195 rfl ?_
      refine hv_icmp_le (tgt := 204) dX12_expression_196 (by decide) (fun c_196 => ?_) (fun c_196 => absurd ((by rw [i4, o0]; decide)) c_196)
      refine hv_aload_n dX12_expression_204 rfl ?_
      refine hv_iconst (v := 0) dX12_expression_205 (by decide) ?_
      refine hv_cv1 (d_comesOut (b := false) (hi := hi) i1 (wf_is i2) (by omega) (by omega) hh) dX12_expression_206 ml_X12_311 mk_X12_comesOut (by first | rfl | assumption) rfl rfl rfl rfl rfl ?_
      rintro _ _ σ3 _ ⟨rfl, rfl, rfl, b1, b2, b3, b4⟩
      refine hv_vret dX12_expression_209 rfl ?_
      exact out e σ3 hR (off_tr i6 b1 (by decide) (by decide)) (kM_tr i7 b2 (by decide) (by decide)) (cdF_tr i8 b4 (by omega)) (mSt_of h4 (b2 11 (by decide)) (b2 13 (by decide)) (b2 14 (by decide)))
    · skip
      refine hv_aload_n dX12_expression_96 rfl ?_
      refine hv_bipush (v := 7) dX12_expression_97 (by decide) ?_
      refine hv_cv1 (d_is (k := 35) (by decide) (by decide) t1 h4) dX12_expression_99 ml_X12_221 mk_X12_is (by first | rfl | assumption) rfl rfl rfl rfl rfl ?_
      rintro _ _ _ _ ⟨rfl, rfl, rfl, rfl⟩
      refine hv_if_eq (tgt := 145) dX12_expression_102 (by decide) (fun c_102 => ?_) (fun c_102 => absurd ((show bI false = 0 by decide)) c_102)
      refine hv_aload_n dX12_expression_145 rfl ?_
      refine hv_bipush (v := 8) dX12_expression_146 (by decide) ?_
      refine hv_cv1 (d_is (k := 29) (by decide) (by decide) t1 h4) dX12_expression_148 ml_X12_221 mk_X12_is (by first | rfl | assumption) rfl rfl rfl rfl rfl ?_
      rintro _ _ _ _ ⟨rfl, rfl, rfl, rfl⟩
      refine hv_if_ne (tgt := 181) dX12_expression_151 (by decide) (fun c_151 => absurd ((show bI false = 0 by decide)) c_151) (fun c_151 => ?_)
      refine hv_aload_n dX12_expression_154 rfl ?_
      refine hv_bipush (v := 9) dX12_expression_155 (by decide) ?_
      refine hv_cv1 (d_is (k := 30) (by decide) (by decide) t1 h4) dX12_expression_157 ml_X12_221 mk_X12_is (by first | rfl | assumption) rfl rfl rfl rfl rfl ?_
      rintro _ _ _ _ ⟨rfl, rfl, rfl, rfl⟩
      refine hv_if_ne (tgt := 181) dX12_expression_160 (by decide) (fun c_160 => absurd ((show bI false = 0 by decide)) c_160) (fun c_160 => ?_)
      refine hv_aload_n dX12_expression_163 rfl ?_
      refine hv_bipush (v := 10) dX12_expression_164 (by decide) ?_
      refine hv_cv1 (d_is (k := 31) (by decide) (by decide) t1 h4) dX12_expression_166 ml_X12_221 mk_X12_is (by first | rfl | assumption) rfl rfl rfl rfl rfl ?_
      rintro _ _ _ _ ⟨rfl, rfl, rfl, rfl⟩
      refine hv_if_ne (tgt := 181) dX12_expression_169 (by decide) (fun c_169 => absurd ((show bI false = 0 by decide)) c_169) (fun c_169 => ?_)
      refine hv_aload_n dX12_expression_172 rfl ?_
      refine hv_bipush (v := 15) dX12_expression_173 (by decide) ?_
      refine hv_cv1 (d_is (k := 32) (by decide) (by decide) t1 h4) dX12_expression_175 ml_X12_221 mk_X12_is (by first | rfl | assumption) rfl rfl rfl rfl rfl ?_
      rintro _ _ _ _ ⟨rfl, rfl, rfl, rfl⟩
      refine hv_if_eq (tgt := 185) dX12_expression_178 (by decide) (fun c_178 => ?_) (fun c_178 => absurd ((show bI false = 0 by decide)) c_178)
      refine hv_iconst (v := 0) dX12_expression_185 (by decide) ?_
      refine hv_istore_n dX12_expression_186 rfl rfl ?_
      refine hv_iload_n dX12_expression_187 rfl ?_
      refine hv_if_ne (tgt := 210) dX12_expression_188 (by decide) (fun c_188 => absurd (rfl) c_188) (fun c_188 => ?_)
      refine hv_aload_n dX12_expression_191 rfl ?_
      refine hv_geti dX12_expression_192 fl_X12_230 (by first | rfl | assumption) rfl ?_
      refine hv_iload_n dX12_expression_195 rfl ?_
      refine hv_icmp_le (tgt := 204) dX12_expression_196 (by decide) (fun c_196 => absurd c_196 ((by rw [i4]; exact nI_nle (by omega) (by omega)))) (fun c_196 => ?_)
      refine hv_aload_n dX12_expression_199 rfl ?_
      refine hv_iconst (v := 1) dX12_expression_200 (by decide) ?_
      refine hv_cv1 (d_fail (k := 1) rfl (Or.inl rfl) t1 h4) dX12_expression_201 ml_X12_218 mk_X12_fail (by first | rfl | assumption) rfl rfl rfl rfl rfl ?_
      rintro _ _ σ2 _ ⟨rfl, rfl, rfl, a1, a2, a3⟩
      have i1' : yW p0 W c σ2 := ⟨by rw [a2 47 (by decide)]; exact i1.1, by rw [a1 95 (by decide)]; exact i1.2.1, by rw [a2 43 (by decide)]; exact i1.2.2.1, by rw [a1 93 (by decide), a1 94 (by decide)]; exact i1.2.2.2⟩
      refine hv_aload_n dX12_expression_204 rfl ?_
      refine hv_iconst (v := 0) dX12_expression_205 (by decide) ?_
      refine hv_cv1 (d_comesOut (b := false) (hi := hi) i1' (wf_is i2) (by omega) (by omega) hh) dX12_expression_206 ml_X12_311 mk_X12_comesOut (by first | rfl | assumption) rfl rfl rfl rfl rfl ?_
      rintro _ _ σ3 _ ⟨rfl, rfl, rfl, b1, b2, b3, b4⟩
      refine hv_vret dX12_expression_209 rfl ?_
      exact out e σ3 hR (off_tr (off_tr i6 a1 (Z := xYd) (by decide) (by decide)) b1 (by decide) (by decide)) (kM_tr (kM_tr i7 a2 (Z := fEx) (by decide) (by decide)) b2 (by decide) (by decide)) (cdF_tr (cdF_tr i8 (cdF_e (a1 93 (by decide)) (a1 94 (by decide))) (Nat.le_refl _)) b4 (by omega)) (mSt_of a3 (b2 11 (by decide)) (b2 13 (by decide)) (b2 14 (by decide)))
  have main : ∀ k, (∀ a W c (σ1 : hS), run (kd f n) (vl f n) k (true, a, W, c) = some R → inE p0 a0 a hi W c σ σ1 → mSt f n (.inr (a, ())) σ1 → hV G (m_X12_expression Q) 0 0 shp 23 [some (.ref (hgA G 64)), some (.int 0), some (.int 1)] [] (rr 38 51 x y) σ1 τ) ∧ (∀ a W c (σ1 : hS), run (kd f n) (vl f n) k (false, a, W, c) = some R → inE p0 a0 a hi W c σ σ1 → mSt f n (.inr (a, ())) σ1 → hV G (m_X12_expression Q) 0 0 shp 96 [some (.ref (hgA G 64)), some (.int 0), some (.int 1)] [] (rr 38 51 x y) σ1 τ) := by
    intro k
    induction k with
    | zero => exact ⟨fun a W c σ1 h => (by cases h), fun a W c σ1 h => (by cases h)⟩
    | succ k ih =>
      refine ⟨fun a W c σ1 hr hE hm => ?_, fun a W c σ1 hr hE hm => ?_⟩
      · have hr1 : (match stA (kd f n) (vl f n) a W c with | .inl s' => run (kd f n) (vl f n) k s' | .inr R => some R) = some R := hr
        unfold stA at hr1
        have hE' := hE
        obtain ⟨i1, i2, i3, i4, i5, i6, i7, i8⟩ := hE
        have t1 := tokM_of ht i6 rfl
        have ha := hm.2.2.1
        have wl := wf_len i2
        have wl2 : (if top W = 34 then 0 else if top W = 29 ∨ top W = 30 then 1 else 2) ≤ 2 := by
          repeat' split
          all_goals omega
        by_cases k34 : kd f n a = 34
        · rw [if_pos k34] at hr1
          by_cases o6 : opn W = 6
          · rw [if_pos o6] at hr1
            have hR : R = .inl (2, a) := (Option.some.inj hr1).symm
            refine hv_aload_n dX12_expression_23 rfl ?_
            refine hv_bipush (v := 6) dX12_expression_24 (by decide) ?_
            refine hv_cv1 (d_is (k := 34) (by decide) (by decide) t1 hm) dX12_expression_26 ml_X12_221 mk_X12_is (by first | rfl | assumption) rfl rfl rfl rfl rfl ?_
            rintro _ _ _ _ ⟨rfl, rfl, rfl, rfl⟩
            rw [isM_t k34]
            refine hv_if_eq (tgt := 84) dX12_expression_29 (by decide) (fun c_29 => absurd c_29 ((show ¬ bI true = 0 by decide))) (fun c_29 => ?_)
            refine hv_aload_n dX12_expression_32 rfl ?_
            refine hv_geti dX12_expression_33 fl_X12_230 (by first | rfl | assumption) rfl ?_
            refine hv_bipush (v := 6) dX12_expression_36 (by decide) ?_
            refine hv_icmp_ne (tgt := 46) dX12_expression_38 (by decide) (fun c_38 => absurd ((by rw [i4, o6]; decide)) c_38) (fun c_38 => ?_)
            refine hv_aload_n dX12_expression_41 rfl ?_
            refine hv_iconst (v := 2) dX12_expression_42 (by decide) ?_
            refine hv_cv1 (d_fail (k := 2) rfl (Or.inr rfl) t1 hm) dX12_expression_43 ml_X12_218 mk_X12_fail (by first | rfl | assumption) rfl rfl rfl rfl rfl ?_
            rintro _ _ σ2 _ ⟨rfl, rfl, rfl, a1, a2, a3⟩
            refine hv_aload_n dX12_expression_46 rfl ?_
            refine hv_dup dX12_expression_47 rfl ?_
            refine hv_geti dX12_expression_48 fl_X12_230 (by first | rfl | assumption) rfl ?_
            refine hv_iconst (v := 1) dX12_expression_51 (by decide) ?_
            refine hv_iadd dX12_expression_52 ?_
            refine hv_puti dX12_expression_53 fl_X12_230 (by first | rfl | assumption) rfl rfl rfl ?_
            refine hv_aload_n dX12_expression_56 rfl ?_
            refine hv_cv0 (d_goesOn (s := .inl (2, a)) (tokM_of t1 (off_up a1 (by decide)) rfl) (mSt_of a3 (by rw [hup_eq, pk_un (by decide)]) (by rw [hup_eq, pk_un (by decide)]) (by rw [hup_eq, pk_un (by decide)])) (fun b w q => (nomatch q))) dX12_expression_57 ml_X12_224 mk_X12_goesOn (by first | rfl | assumption) rfl rfl rfl rfl rfl ?_
            rintro _ _ σ3 _ ⟨rfl, rfl, rfl, b1, b2, b3⟩
            refine hv_aload_n dX12_expression_60 rfl ?_
            refine hv_getr dX12_expression_61 fl_X12_110 (by first | rfl | assumption) rfl (by first | rfl | assumption) ?_
            refine hv_aload_n dX12_expression_64 rfl ?_
            refine hv_geti dX12_expression_65 fl_X12_302 (by first | rfl | assumption) rfl ?_
            refine hv_bipush (v := 6) dX12_expression_68 (by decide) ?_
            refine hv_iast dX12_expression_70 (by first | rfl | assumption) (j := W.length) (by rw [b2 47 (by decide), hup_eq, pk_un (by decide), a2 47 (by decide)]; exact i1.1) (by omega) (by first | decide | assumption) ?_
            refine hv_aload_n dX12_expression_71 rfl ?_
            refine hv_dup dX12_expression_72 rfl ?_
            refine hv_geti dX12_expression_73 fl_X12_302 (by first | rfl | assumption) rfl ?_
            refine hv_iconst (v := 1) dX12_expression_76 (by decide) ?_
            refine hv_iadd dX12_expression_77 ?_
            refine hv_puti dX12_expression_78 fl_X12_302 (by first | rfl | assumption) rfl rfl rfl ?_
            refine hv_goto (tgt := 23) dX12_expression_81 (by decide) ?_
            refine fx23 (2, a) _ hR (off_up (off_up (off_tr (off_up (off_tr i6 a1 (Z := xYd) (by decide) (by decide)) (by decide)) b1 (by decide) (by decide)) (by decide)) (by decide)) ?_ ?_ ?_
            · exact kM_tr (kM_tr (kM_tr (kM_tr i7 a2 (Z := fEx) (by decide) (by decide)) (kM_up (X := [12]) (by decide)) (Z := fEx) (by decide) (by decide)) b2 (Z := fEx) (by decide) (by decide)) (kM_tr (kM_c kM_rf (X := []) (by decide)) (kM_up (X := [47]) (by decide)) (Z := fEx) (by decide) (by decide)) (by decide) (by decide)
            · refine cdF_tr i8 (cdF_e ?_ ?_) (Nat.le_refl _)
              · rw [hva_ne (by decide), hva_ne (by decide), b1 93 (by decide), hva_ne (by decide), a1 93 (by decide)]
              · rw [hva_ne (by decide), hva_ne (by decide), b1 94 (by decide), hva_ne (by decide), a1 94 (by decide)]
            · exact mSt_of b3 (by rw [hup_eq, pk_un (by decide), hva_ne (by decide)]) (by rw [hup_eq, pk_un (by decide), hva_ne (by decide)]) (by rw [hup_eq, pk_un (by decide), hva_ne (by decide)])
          · rw [if_neg o6] at hr1
            have e34 : opn (34 :: W) = opn W + 1 := if_pos rfl
            refine hv_aload_n dX12_expression_23 rfl ?_
            refine hv_bipush (v := 6) dX12_expression_24 (by decide) ?_
            refine hv_cv1 (d_is (k := 34) (by decide) (by decide) t1 hm) dX12_expression_26 ml_X12_221 mk_X12_is (by first | rfl | assumption) rfl rfl rfl rfl rfl ?_
            rintro _ _ _ _ ⟨rfl, rfl, rfl, rfl⟩
            rw [isM_t k34]
            refine hv_if_eq (tgt := 84) dX12_expression_29 (by decide) (fun c_29 => absurd c_29 ((show ¬ bI true = 0 by decide))) (fun c_29 => ?_)
            refine hv_aload_n dX12_expression_32 rfl ?_
            refine hv_geti dX12_expression_33 fl_X12_230 (by first | rfl | assumption) rfl ?_
            refine hv_bipush (v := 6) dX12_expression_36 (by decide) ?_
            refine hv_icmp_ne (tgt := 46) dX12_expression_38 (by decide) (fun c_38 => ?_) (fun c_38 => absurd c_38 ((by rw [i4]; exact fun q => o6 ((nI_eq (b := 6) (by omega) (by decide)).mp q))))
            refine hv_aload_n dX12_expression_46 rfl ?_
            refine hv_dup dX12_expression_47 rfl ?_
            refine hv_geti dX12_expression_48 fl_X12_230 (by first | rfl | assumption) rfl ?_
            refine hv_iconst (v := 1) dX12_expression_51 (by decide) ?_
            refine hv_iadd dX12_expression_52 ?_
            refine hv_puti dX12_expression_53 fl_X12_230 (by first | rfl | assumption) rfl rfl rfl ?_
            refine hv_aload_n dX12_expression_56 rfl ?_
            refine hv_cv0 (d_goesOn (s := .inr (a, ())) (tokM_of t1 (off_up (X := [64]) (fun _ _ => rfl) (by decide)) rfl) (mSt_of hm (by rw [hup_eq, pk_un (by decide)]) (by rw [hup_eq, pk_un (by decide)]) (by rw [hup_eq, pk_un (by decide)])) (fun b w q => by cases q; omega)) dX12_expression_57 ml_X12_224 mk_X12_goesOn (by first | rfl | assumption) rfl rfl rfl rfl rfl ?_
            rintro _ _ σ3 _ ⟨rfl, rfl, rfl, b1, b2, b3⟩
            have q47 : σ3 64 47 = nI W.length := by rw [b2 47 (by decide), hup_eq, pk_un (by decide)]; exact i1.1
            refine hv_aload_n dX12_expression_60 rfl ?_
            refine hv_getr dX12_expression_61 fl_X12_110 (by first | rfl | assumption) rfl (by first | rfl | assumption) ?_
            refine hv_aload_n dX12_expression_64 rfl ?_
            refine hv_geti dX12_expression_65 fl_X12_302 (by first | rfl | assumption) rfl ?_
            refine hv_bipush (v := 6) dX12_expression_68 (by decide) ?_
            refine hv_iast dX12_expression_70 (by first | rfl | assumption) (j := W.length) q47 (by omega) (by first | decide | assumption) ?_
            refine hv_aload_n dX12_expression_71 rfl ?_
            refine hv_dup dX12_expression_72 rfl ?_
            refine hv_geti dX12_expression_73 fl_X12_302 (by first | rfl | assumption) rfl ?_
            refine hv_iconst (v := 1) dX12_expression_76 (by decide) ?_
            refine hv_iadd dX12_expression_77 ?_
            rw [hva_ne (show 64 ≠ 95 by decide), q47, nI_1]
            refine hv_puti dX12_expression_78 fl_X12_302 (by first | rfl | assumption) rfl rfl rfl ?_
            refine hv_goto (tgt := 23) dX12_expression_81 (by decide) ?_
            have gσ : ∀ j, j ∉ xYd → va_up (va_up σ3 95 (upd (σ3 95) W.length 6)) 64 (upd (va_up σ3 95 (upd (σ3 95) W.length 6) 64) 47 (nI (W.length + 1))) j = σ j := off_up (off_up (off_tr (off_up (X := xYd) i6 (by decide)) b1 (by decide) (by decide)) (by decide)) (by decide)
            have gk : kM fEx σ (va_up (va_up σ3 95 (upd (σ3 95) W.length 6)) 64 (upd (va_up σ3 95 (upd (σ3 95) W.length 6) 64) 47 (nI (W.length + 1)))) := kM_tr (kM_tr (kM_tr i7 (kM_up (X := [12]) (by decide)) (Z := fEx) (by decide) (by decide)) b2 (Z := fEx) (by decide) (by decide)) (kM_tr (kM_c kM_rf (X := []) (by decide)) (kM_up (X := [47]) (by decide)) (Z := fEx) (by decide) (by decide)) (by decide) (by decide)
            have gd : cdF p0 hi σ (va_up (va_up σ3 95 (upd (σ3 95) W.length 6)) 64 (upd (va_up σ3 95 (upd (σ3 95) W.length 6) 64) 47 (nI (W.length + 1)))) := by
              refine cdF_tr i8 (cdF_e ?_ ?_) (Nat.le_refl _)
              · rw [hva_ne (by decide), hva_ne (by decide), b1 93 (by decide), hva_ne (by decide)]
              · rw [hva_ne (by decide), hva_ne (by decide), b1 94 (by decide), hva_ne (by decide)]
            have gm : mSt f n (pass a) (va_up (va_up σ3 95 (upd (σ3 95) W.length 6)) 64 (upd (va_up σ3 95 (upd (σ3 95) W.length 6) 64) 47 (nI (W.length + 1)))) := mSt_of b3 (by rw [hup_eq, pk_un (by decide), hva_ne (by decide)]) (by rw [hup_eq, pk_un (by decide), hva_ne (by decide)]) (by rw [hup_eq, pk_un (by decide), hva_ne (by decide)])
            rcases pass_cases a with ⟨p1, p2⟩ | ⟨p1, p2⟩
            · rw [p2] at hr1 gm
              refine ih.1 (a + 1) (34 :: W) c _ hr1 ⟨⟨?_, ⟨?_, ?_⟩, ?_, ?_⟩, ⟨i2, Or.inl rfl⟩, by omega, ?_, by rw [e34, List.length_cons]; omega, gσ, gk, gd⟩ gm
              · rw [hup_eq, pk_us]; rfl
              · rw [hva_ne (by decide), hup_eq, pk_us]; rfl
              · rw [hva_ne (by decide), hup_eq, b1 95 (by decide), hva_ne (by decide)]
                exact wAt_ext (q := W.length) (Nat.le_refl _) (fun j hj => pk_un (by omega)) i1.2.1
              · rw [hup_eq, pk_un (by decide), hva_ne (by decide), b2 43 (by decide), hup_eq, pk_un (by decide)]; exact i1.2.2.1
              · rw [hva_ne (by decide), hva_ne (by decide), b1 93 (by decide), hva_ne (by decide), hva_ne (by decide), hva_ne (by decide), b1 94 (by decide), hva_ne (by decide)]; exact i1.2.2.2
              · rw [hup_eq, pk_un (by decide), hva_ne (by decide), b2 12 (by decide), hup_eq, pk_us, e34, i4, nI_1]
            · rw [p2] at hr1 gm
              exact fx23 (2, a) _ (Option.some.inj hr1).symm gσ gk gd gm
        · rw [if_neg k34] at hr1
          have leaf : ∀ kk oo, ((kd f n a = 24 ∧ kk = 0 ∧ oo = nI (vl f n a)) ∨ ((14 ≤ kd f n a ∧ kd f n a ≤ 22) ∧ kk = 1 ∧ oo = nI (kd f n a - 14))) → (match (match pass a with | .inl e => (.inr (.inl e) : Sum hYd (hPR hCd)) | .inr (b, _) => .inl (false, b, W, c ++ [(kk, oo)])) with | .inl s' => run (kd f n) (vl f n) k s' | .inr R => some R) = some R → hV G (m_X12_expression Q) 0 0 shp 23 [some (.ref (hgA G 64)), some (.int 0), some (.int 1)] [] (rr 38 51 x y) σ1 τ := by
            intro kk oo hK hr2
            rcases pass_cases a with ⟨p1, p2⟩ | ⟨p1, p2⟩
            · rw [p2] at hr2
              refine hv_aload_n dX12_expression_23 rfl ?_
              refine hv_bipush (v := 6) dX12_expression_24 (by decide) ?_
              refine hv_cv1 (d_is (k := 34) (by decide) (by decide) t1 hm) dX12_expression_26 ml_X12_221 mk_X12_is (by first | rfl | assumption) rfl rfl rfl rfl rfl ?_
              rintro _ _ _ _ ⟨rfl, rfl, rfl, rfl⟩
              rw [isM_f k34]
              refine hv_if_eq (tgt := 84) dX12_expression_29 (by decide) (fun c_29 => ?_) (fun c_29 => absurd ((show bI false = 0 by decide)) c_29)
              refine hv_aload_n dX12_expression_84 rfl ?_
              refine hv_cv0 (d_unitL (hi := hi) t1 hm hK i1 (by omega) hh) dX12_expression_85 ml_X12_308 mk_X12_unit (by first | rfl | assumption) rfl rfl rfl rfl rfl ?_
              rintro _ _ σ2 _ ⟨rfl, rfl, rfl, a1, a2, a3, a4, a5⟩
              rw [p2] at a3
              refine hv_aload_n dX12_expression_88 rfl ?_
              refine hv_geti dX12_expression_89 fl_X12_203 (by first | rfl | assumption) rfl ?_
              refine hv_if_le (tgt := 96) dX12_expression_92 (by decide) (fun c_92 => ?_) (fun c_92 => absurd ((by rw [a3.1]; decide)) c_92)
              exact ih.2 (a + 1) W _ σ2 hr2 ⟨a4, i2, i3, by rw [a2 12 (by decide)]; exact i4, by rw [List.length_append, List.length_singleton]; omega, off_tr i6 a1 (by decide) (by decide), kM_tr i7 a2 (by decide) (by decide), cdF_tr i8 a5 (by omega)⟩ a3
            · rw [p2] at hr2
              refine hv_aload_n dX12_expression_23 rfl ?_
              refine hv_bipush (v := 6) dX12_expression_24 (by decide) ?_
              refine hv_cv1 (d_is (k := 34) (by decide) (by decide) t1 hm) dX12_expression_26 ml_X12_221 mk_X12_is (by first | rfl | assumption) rfl rfl rfl rfl rfl ?_
              rintro _ _ _ _ ⟨rfl, rfl, rfl, rfl⟩
              rw [isM_f k34]
              refine hv_if_eq (tgt := 84) dX12_expression_29 (by decide) (fun c_29 => ?_) (fun c_29 => absurd ((show bI false = 0 by decide)) c_29)
              refine hv_aload_n dX12_expression_84 rfl ?_
              refine hv_cv0 (d_unitL (hi := hi) t1 hm hK i1 (by omega) hh) dX12_expression_85 ml_X12_308 mk_X12_unit (by first | rfl | assumption) rfl rfl rfl rfl rfl ?_
              rintro _ _ σ2 _ ⟨rfl, rfl, rfl, a1, a2, a3, a4, a5⟩
              rw [p2] at a3
              refine hv_aload_n dX12_expression_88 rfl ?_
              refine hv_geti dX12_expression_89 fl_X12_203 (by first | rfl | assumption) rfl ?_
              refine hv_if_le (tgt := 96) dX12_expression_92 (by decide) (fun c_92 => absurd c_92 ((by rw [a3.1]; decide))) (fun c_92 => ?_)
              refine hv_vret dX12_expression_95 rfl ?_
              exact out (2, a) σ2 (Option.some.inj hr2).symm (off_tr i6 a1 (by decide) (by decide)) (kM_tr i7 a2 (by decide) (by decide)) (cdF_tr i8 a5 (by omega)) a3
          by_cases k24 : kd f n a = 24
          · rw [if_pos k24] at hr1
            exact leaf 0 _ (Or.inl ⟨k24, rfl, rfl⟩) hr1
          · rw [if_neg k24] at hr1
            by_cases kv : 14 ≤ kd f n a ∧ kd f n a ≤ 22
            · rw [if_pos kv] at hr1
              exact leaf 1 _ (Or.inr ⟨kv, rfl, rfl⟩) hr1
            · rw [if_neg kv] at hr1
              refine hv_aload_n dX12_expression_23 rfl ?_
              refine hv_bipush (v := 6) dX12_expression_24 (by decide) ?_
              refine hv_cv1 (d_is (k := 34) (by decide) (by decide) t1 hm) dX12_expression_26 ml_X12_221 mk_X12_is (by first | rfl | assumption) rfl rfl rfl rfl rfl ?_
              rintro _ _ _ _ ⟨rfl, rfl, rfl, rfl⟩
              rw [isM_f k34]
              refine hv_if_eq (tgt := 84) dX12_expression_29 (by decide) (fun c_29 => ?_) (fun c_29 => absurd ((show bI false = 0 by decide)) c_29)
              refine hv_aload_n dX12_expression_84 rfl ?_
              refine hv_cv0 (d_unitN t1 hm k24 kv) dX12_expression_85 ml_X12_308 mk_X12_unit (by first | rfl | assumption) rfl rfl rfl rfl rfl ?_
              rintro _ _ σ2 _ ⟨rfl, rfl, rfl, a1, a2, a3⟩
              refine hv_aload_n dX12_expression_88 rfl ?_
              refine hv_geti dX12_expression_89 fl_X12_203 (by first | rfl | assumption) rfl ?_
              refine hv_if_le (tgt := 96) dX12_expression_92 (by decide) (fun c_92 => absurd c_92 ((by rw [a3.1]; decide))) (fun c_92 => ?_)
              refine hv_vret dX12_expression_95 rfl ?_
              exact out (1, a) σ2 (Option.some.inj hr1).symm (off_tr i6 a1 (by decide) (by decide)) (kM_tr i7 a2 (by decide) (by decide)) (cdF_tr i8 (cdF_e (a1 93 (by decide)) (a1 94 (by decide))) (Nat.le_refl _)) a3
      · have hr1 : (match stB (kd f n) a W c with | .inl s' => run (kd f n) (vl f n) k s' | .inr R => some R) = some R := hr
        unfold stB at hr1
        have hE' := hE
        obtain ⟨i1, i2, i3, i4, i5, i6, i7, i8⟩ := hE
        have t1 := tokM_of ht i6 rfl
        have ha := hm.2.2.1
        have wl := wf_len i2
        have wl2 : (if top W = 34 then 0 else if top W = 29 ∨ top W = 30 then 1 else 2) ≤ 2 := by
          repeat' split
          all_goals omega
        by_cases c35 : kd f n a = 35 ∧ 0 < opn W
        · rw [if_pos c35] at hr1
          have fa := fl_all (s := false) (c := c) i2
          have fc := cons_34 (fa.2.2.2.1 rfl) (by rw [fa.2.1]; exact c35.2)
          generalize hZ : flA false W c = ZZ at hr1 fa fc
          obtain ⟨Z, d⟩ := ZZ
          dsimp only at hr1 fa fc
          generalize hY : Z.tail = Y at hr1 fc
          obtain rfl := fc
          have e34 : opn (34 :: Y) = opn Y + 1 := if_pos rfl
          rw [e34, List.length_cons] at fa
          refine hv_aload_n dX12_expression_96 rfl ?_
          refine hv_bipush (v := 7) dX12_expression_97 (by decide) ?_
          refine hv_cv1 (d_is (k := 35) (by decide) (by decide) t1 hm) dX12_expression_99 ml_X12_221 mk_X12_is (by first | rfl | assumption) rfl rfl rfl rfl rfl ?_
          rintro _ _ _ _ ⟨rfl, rfl, rfl, rfl⟩
          rw [isM_t c35.1]
          refine hv_if_eq (tgt := 145) dX12_expression_102 (by decide) (fun c_102 => absurd c_102 ((show ¬ bI true = 0 by decide))) (fun c_102 => ?_)
          refine hv_aload_n dX12_expression_105 rfl ?_
          refine hv_geti dX12_expression_106 fl_X12_230 (by first | rfl | assumption) rfl ?_
          refine hv_iload_n dX12_expression_109 rfl ?_
          refine hv_icmp_le (tgt := 145) dX12_expression_110 (by decide) (fun c_110 => absurd c_110 ((by rw [i4]; exact nI_nle c35.2 (by omega)))) (fun c_110 => ?_)
          refine hv_aload_n dX12_expression_113 rfl ?_
          refine hv_iconst (v := 0) dX12_expression_114 (by decide) ?_
          refine hv_cv1 (d_comesOut (b := false) (hi := hi) i1 (wf_is i2) (by omega) (by omega) hh) dX12_expression_115 ml_X12_311 mk_X12_comesOut (by first | rfl | assumption) rfl rfl rfl rfl rfl ?_
          rintro _ _ σ2 _ ⟨rfl, rfl, rfl, a1, a2, a3, a4⟩
          rw [hZ] at a3
          have q47 : σ2 64 47 = nI (Y.length + 1) := a3.1
          refine hv_aload_n dX12_expression_118 rfl ?_
          refine hv_dup dX12_expression_119 rfl ?_
          refine hv_geti dX12_expression_120 fl_X12_302 (by first | rfl | assumption) rfl ?_
          refine hv_iconst (v := 1) dX12_expression_123 (by decide) ?_
          refine hv_isub dX12_expression_124 ?_
          rw [q47, nI_pred]
          refine hv_puti dX12_expression_125 fl_X12_302 (by first | rfl | assumption) rfl rfl rfl ?_
          refine hv_aload_n dX12_expression_128 rfl ?_
          refine hv_dup dX12_expression_129 rfl ?_
          refine hv_geti dX12_expression_130 fl_X12_230 (by first | rfl | assumption) rfl ?_
          refine hv_iconst (v := 1) dX12_expression_133 (by decide) ?_
          refine hv_isub dX12_expression_134 ?_
          rw [hup_eq, pk_un (by decide), a2 12 (by decide), i4, show opn W = opn Y + 1 by omega, nI_pred]
          refine hv_puti dX12_expression_135 fl_X12_230 (by first | rfl | assumption) rfl rfl rfl ?_
          refine hv_aload_n dX12_expression_138 rfl ?_
          refine hv_cv0 (d_goesOn (s := .inr (a, ())) (tokM_of t1 (off_up (off_up (off_wk a1 (Z := xYd) (by decide)) (by decide)) (by decide)) rfl) (mSt_of hm (by rw [hup_eq, pk_un (by decide), hup_eq, pk_un (by decide)]; exact a2 11 (by decide)) (by rw [hup_eq, pk_un (by decide), hup_eq, pk_un (by decide)]; exact a2 13 (by decide)) (by rw [hup_eq, pk_un (by decide), hup_eq, pk_un (by decide)]; exact a2 14 (by decide))) (fun b w q => by cases q; omega)) dX12_expression_139 ml_X12_224 mk_X12_goesOn (by first | rfl | assumption) rfl rfl rfl rfl rfl ?_
          rintro _ _ σ3 _ ⟨rfl, rfl, rfl, b1, b2, b3⟩
          refine hv_goto (tgt := 96) dX12_expression_142 (by decide) ?_
          have hE2 : inE p0 a0 a hi Y d σ σ3 := by
            refine ⟨⟨?_, ?_, ?_, ?_⟩, fa.1.1, by omega, ?_, by omega, ?_, ?_, ?_⟩
            · rw [b2 47 (by decide), hup_eq, pk_un (by decide), hup_eq, pk_us]
            · rw [b1 95 (by decide), hva_ne (by decide), hva_ne (by decide)]; exact a3.2.1.2
            · rw [b2 43 (by decide), hup_eq, pk_un (by decide), hup_eq, pk_un (by decide)]; exact a3.2.2.1
            · rw [b1 93 (by decide), hva_ne (by decide), hva_ne (by decide), b1 94 (by decide), hva_ne (by decide), hva_ne (by decide)]; exact a3.2.2.2
            · rw [b2 12 (by decide), hup_eq, pk_us]
            · exact off_tr (off_up (off_up (off_tr i6 a1 (Z := xYd) (by decide) (by decide)) (by decide)) (by decide)) b1 (by decide) (by decide)
            · exact kM_tr (kM_tr (kM_tr i7 a2 (Z := fEx) (by decide) (by decide)) (kM_tr (kM_up (X := [47]) (by decide)) (kM_up (X := [12]) (by decide)) (Z := fEx) (by decide) (by decide)) (Z := fEx) (by decide) (by decide)) b2 (by decide) (by decide)
            · refine cdF_tr (cdF_tr i8 a4 (by omega)) (cdF_e ?_ ?_) (Nat.le_refl _)
              · rw [b1 93 (by decide), hva_ne (by decide), hva_ne (by decide)]
              · rw [b1 94 (by decide), hva_ne (by decide), hva_ne (by decide)]
          rcases pass_cases a with ⟨p1, p2⟩ | ⟨p1, p2⟩
          · rw [p2] at hr1
            have b4 : mSt f n (pass a) σ3 := b3
            rw [p2] at b4
            exact ih.2 (a + 1) Y d σ3 hr1 (inE_m hE2 (fun _ _ => rfl) kM_rf (by omega)) b4
          · rw [p2] at hr1
            have b4 : mSt f n (pass a) σ3 := b3
            rw [p2] at b4
            exact fx96 (2, a) σ3 a Y d (Option.some.inj hr1).symm ha hE2 b4
        · rw [if_neg c35] at hr1
          by_cases cop : 29 ≤ kd f n a ∧ kd f n a ≤ 32
          · rw [if_pos cop] at hr1
            have fa := fl_all (s := decide (31 ≤ kd f n a)) (c := c) i2
            have ft := wf_top fa.1
            have push : ∀ σ2 : hS, (∀ k, k ∉ [64, 93, 94] → σ2 k = σ1 k) → kM [43, 47] σ1 σ2 → yW p0 (flA (decide (31 ≤ kd f n a)) W c).1 (flA (decide (31 ≤ kd f n a)) W c).2 σ2 → cdF (p0 + c.length) hi σ1 σ2 → hV G (m_X12_expression Q) 0 0 shp 237 [some (.ref (hgA G 64)), some (.int 0), some (.int 1)] [] (rr 38 51 x y) σ2 τ := by
              intro σ2 a1 a2 a3 a4
              have wz := wf_len fa.1
              have wf2 : wfW (kd f n a :: (flA (decide (31 ≤ kd f n a)) W c).1) := by
                refine ⟨fa.1, Or.inr ?_⟩
                by_cases c31 : 31 ≤ kd f n a
                · exact Or.inr ⟨by omega, fa.2.2.2.2⟩
                · exact Or.inl ⟨by omega, fa.2.2.2.1 (decide_eq_false c31)⟩
              generalize flA (decide (31 ≤ kd f n a)) W c = ZZ at hr1 fa ft a3 wz wf2
              obtain ⟨Z, d⟩ := ZZ
              dsimp only at hr1 fa ft a3 wz wf2
              have wz2 : (if top Z = 34 then 0 else if top Z = 29 ∨ top Z = 30 then 1 else 2) ≤ 2 := by
                repeat' split
                all_goals omega
              have hm2 : mSt f n (.inr (a, ())) σ2 := mSt_of hm (a2 11 (by decide)) (a2 13 (by decide)) (a2 14 (by decide))
              have e67 : σ2 67 a = nI (kap (kd f n a)) := by rw [a1 67 (by decide)]; exact (t1 a hm.2.2).1
              have t2 := tokM_of t1 a1 rfl
              have gσ : ∀ σ4 : hS, (∀ j, j ∉ [64] → σ4 j = va_up (va_up σ2 95 (upd (σ2 95) Z.length (nI (kap (kd f n a))))) 64 (upd (va_up σ2 95 (upd (σ2 95) Z.length (nI (kap (kd f n a)))) 64) 47 (nI (Z.length + 1))) j) → kM [11, 13, 14] (va_up (va_up σ2 95 (upd (σ2 95) Z.length (nI (kap (kd f n a))))) 64 (upd (va_up σ2 95 (upd (σ2 95) Z.length (nI (kap (kd f n a)))) 64) 47 (nI (Z.length + 1)))) σ4 → inE p0 a0 (a + 1) hi (kd f n a :: Z) d σ σ4 := by
                intro σ4 b1 b2
                refine ⟨⟨?_, ⟨?_, ?_⟩, ?_, ?_⟩, wf2, ?_, ?_, ?_, ?_, ?_, ?_⟩
                · rw [b2 47 (by decide), hup_eq, pk_us]; rfl
                · rw [b1 95 (by decide), hva_ne (by decide), hup_eq, pk_us]
                · rw [b1 95 (by decide), hva_ne (by decide), hup_eq]
                  exact wAt_ext (q := Z.length) (Nat.le_refl _) (fun j hj => pk_un (by omega)) a3.2.1
                · rw [b2 43 (by decide), hup_eq, pk_un (by decide), hva_ne (by decide)]; exact a3.2.2.1
                · rw [b1 93 (by decide), hva_ne (by decide), hva_ne (by decide), b1 94 (by decide), hva_ne (by decide), hva_ne (by decide)]; exact a3.2.2.2
                · rw [opn_n (by omega)]; omega
                · rw [b2 12 (by decide), hup_eq, pk_un (by decide), hva_ne (by decide), a2 12 (by decide), i4, opn_n (by omega), fa.2.1]
                · rw [opn_n (by omega), List.length_cons]; omega
                · exact off_tr (off_up (off_up (off_tr i6 a1 (Z := xYd) (by decide) (by decide)) (by decide)) (by decide)) b1 (by decide) (by decide)
                · exact kM_tr (kM_tr (kM_tr i7 a2 (Z := fEx) (by decide) (by decide)) (kM_tr (kM_c kM_rf (X := []) (by decide)) (kM_up (X := [47]) (by decide)) (Z := fEx) (by decide) (by decide)) (Z := fEx) (by decide) (by decide)) b2 (by decide) (by decide)
                · refine cdF_tr (cdF_tr i8 a4 (by omega)) (cdF_e ?_ ?_) (Nat.le_refl _)
                  · rw [b1 93 (by decide), hva_ne (by decide), hva_ne (by decide)]
                  · rw [b1 94 (by decide), hva_ne (by decide), hva_ne (by decide)]
              have gm : mSt f n (.inr (a, ())) (va_up (va_up σ2 95 (upd (σ2 95) Z.length (nI (kap (kd f n a))))) 64 (upd (va_up σ2 95 (upd (σ2 95) Z.length (nI (kap (kd f n a)))) 64) 47 (nI (Z.length + 1)))) := mSt_of hm2 (by rw [hup_eq, pk_un (by decide), hva_ne (by decide)]) (by rw [hup_eq, pk_un (by decide), hva_ne (by decide)]) (by rw [hup_eq, pk_un (by decide), hva_ne (by decide)])
              rcases pass_cases a with ⟨p1, p2⟩ | ⟨p1, p2⟩
              · rw [p2] at hr1
                refine hv_aload_n dX12_expression_237 rfl ?_
                refine hv_getr dX12_expression_238 fl_X12_110 (by first | rfl | assumption) rfl (by first | rfl | assumption) ?_
                refine hv_aload_n dX12_expression_241 rfl ?_
                refine hv_geti dX12_expression_242 fl_X12_302 (by first | rfl | assumption) rfl ?_
                refine hv_aload_n dX12_expression_245 rfl ?_
                refine hv_getr dX12_expression_246 fl_X12_20 (by first | rfl | assumption) rfl (by first | rfl | assumption) ?_
                refine hv_aload_n dX12_expression_249 rfl ?_
                refine hv_geti dX12_expression_250 fl_X12_206 (by first | rfl | assumption) rfl ?_
                refine hv_iald dX12_expression_253 (by first | rfl | assumption) (j := a) hm2.2.1 (by omega) (by first | decide | assumption) ?_
                rw [e67]
                refine hv_iast dX12_expression_254 (by first | rfl | assumption) (j := Z.length) a3.1 (by omega) (by first | decide | assumption) ?_
                refine hv_aload_n dX12_expression_255 rfl ?_
                refine hv_dup dX12_expression_256 rfl ?_
                refine hv_geti dX12_expression_257 fl_X12_302 (by first | rfl | assumption) rfl ?_
                refine hv_iconst (v := 1) dX12_expression_260 (by decide) ?_
                refine hv_iadd dX12_expression_261 ?_
                rw [hva_ne (show 64 ≠ 95 by decide), a3.1, nI_1]
                refine hv_puti dX12_expression_262 fl_X12_302 (by first | rfl | assumption) rfl rfl rfl ?_
                refine hv_aload_n dX12_expression_265 rfl ?_
                refine hv_cv0 (d_goesOn (s := .inr (a, ())) (tokM_of t2 (off_up (off_up (X := xYd) (fun _ _ => rfl) (by decide)) (by decide)) rfl) gm (fun b w q => by cases q; omega)) dX12_expression_266 ml_X12_224 mk_X12_goesOn (by first | rfl | assumption) rfl rfl rfl rfl rfl ?_
                rintro _ _ σ4 _ ⟨rfl, rfl, rfl, b1, b2, b3⟩
                have b4 : mSt f n (pass a) σ4 := b3
                rw [p2] at b4
                refine hv_goto (tgt := 12) dX12_expression_269 (by decide) ?_
                refine hv_iload_n dX12_expression_12 rfl ?_
                refine hv_if_eq (tgt := 272) dX12_expression_13 (by decide) (fun c_13 => absurd c_13 ((by decide))) (fun c_13 => ?_)
                refine hv_aload_n dX12_expression_16 rfl ?_
                refine hv_geti dX12_expression_17 fl_X12_203 (by first | rfl | assumption) rfl ?_
                refine hv_if_ne (tgt := 272) dX12_expression_20 (by decide) (fun c_20 => absurd (b4.1) c_20) (fun c_20 => ?_)
                exact ih.1 (a + 1) (kd f n a :: Z) d σ4 hr1 (gσ σ4 b1 b2) b4
              · rw [p2] at hr1
                refine hv_aload_n dX12_expression_237 rfl ?_
                refine hv_getr dX12_expression_238 fl_X12_110 (by first | rfl | assumption) rfl (by first | rfl | assumption) ?_
                refine hv_aload_n dX12_expression_241 rfl ?_
                refine hv_geti dX12_expression_242 fl_X12_302 (by first | rfl | assumption) rfl ?_
                refine hv_aload_n dX12_expression_245 rfl ?_
                refine hv_getr dX12_expression_246 fl_X12_20 (by first | rfl | assumption) rfl (by first | rfl | assumption) ?_
                refine hv_aload_n dX12_expression_249 rfl ?_
                refine hv_geti dX12_expression_250 fl_X12_206 (by first | rfl | assumption) rfl ?_
                refine hv_iald dX12_expression_253 (by first | rfl | assumption) (j := a) hm2.2.1 (by omega) (by first | decide | assumption) ?_
                rw [e67]
                refine hv_iast dX12_expression_254 (by first | rfl | assumption) (j := Z.length) a3.1 (by omega) (by first | decide | assumption) ?_
                refine hv_aload_n dX12_expression_255 rfl ?_
                refine hv_dup dX12_expression_256 rfl ?_
                refine hv_geti dX12_expression_257 fl_X12_302 (by first | rfl | assumption) rfl ?_
                refine hv_iconst (v := 1) dX12_expression_260 (by decide) ?_
                refine hv_iadd dX12_expression_261 ?_
                rw [hva_ne (show 64 ≠ 95 by decide), a3.1, nI_1]
                refine hv_puti dX12_expression_262 fl_X12_302 (by first | rfl | assumption) rfl rfl rfl ?_
                refine hv_aload_n dX12_expression_265 rfl ?_
                refine hv_cv0 (d_goesOn (s := .inr (a, ())) (tokM_of t2 (off_up (off_up (X := xYd) (fun _ _ => rfl) (by decide)) (by decide)) rfl) gm (fun b w q => by cases q; omega)) dX12_expression_266 ml_X12_224 mk_X12_goesOn (by first | rfl | assumption) rfl rfl rfl rfl rfl ?_
                rintro _ _ σ4 _ ⟨rfl, rfl, rfl, b1, b2, b3⟩
                have b4 : mSt f n (pass a) σ4 := b3
                rw [p2] at b4
                refine hv_goto (tgt := 12) dX12_expression_269 (by decide) ?_
                refine hv_iload_n dX12_expression_12 rfl ?_
                refine hv_if_eq (tgt := 272) dX12_expression_13 (by decide) (fun c_13 => absurd c_13 ((by decide))) (fun c_13 => ?_)
                refine hv_aload_n dX12_expression_16 rfl ?_
                refine hv_geti dX12_expression_17 fl_X12_203 (by first | rfl | assumption) rfl ?_
                refine hv_if_ne (tgt := 272) dX12_expression_20 (by decide) (fun c_20 => ?_) (fun c_20 => absurd c_20 ((by rw [b4.1]; decide)))
                refine hv_vret dX12_expression_272 rfl ?_
                obtain ⟨-, -, -, -, -, j6, j7, j8⟩ := gσ σ4 b1 b2
                exact out (2, a) σ4 (Option.some.inj hr1).symm j6 j7 j8 b4
            rcases (show kd f n a = 29 ∨ kd f n a = 30 ∨ kd f n a = 31 ∨ kd f n a = 32 by omega) with q | q | q | q
            · skip
              refine hv_aload_n dX12_expression_96 rfl ?_
              refine hv_bipush (v := 7) dX12_expression_97 (by decide) ?_
              refine hv_cv1 (d_is (k := 35) (by decide) (by decide) t1 hm) dX12_expression_99 ml_X12_221 mk_X12_is (by first | rfl | assumption) rfl rfl rfl rfl rfl ?_
              rintro _ _ _ _ ⟨rfl, rfl, rfl, rfl⟩
              rw [isM_f (by omega)]
              refine hv_if_eq (tgt := 145) dX12_expression_102 (by decide) (fun c_102 => ?_) (fun c_102 => absurd ((show bI false = 0 by decide)) c_102)
              refine hv_aload_n dX12_expression_145 rfl ?_
              refine hv_bipush (v := 8) dX12_expression_146 (by decide) ?_
              refine hv_cv1 (d_is (k := 29) (by decide) (by decide) t1 hm) dX12_expression_148 ml_X12_221 mk_X12_is (by first | rfl | assumption) rfl rfl rfl rfl rfl ?_
              rintro _ _ _ _ ⟨rfl, rfl, rfl, rfl⟩
              rw [isM_t q]
              refine hv_if_ne (tgt := 181) dX12_expression_151 (by decide) (fun c_151 => ?_) (fun c_151 => absurd c_151 ((show ¬ bI true = 0 by decide)))
              refine hv_iconst (v := 1) dX12_expression_181 (by decide) ?_
              refine hv_goto (tgt := 186) dX12_expression_182 (by decide) ?_
              refine hv_istore_n dX12_expression_186 rfl rfl ?_
              refine hv_iload_n dX12_expression_187 rfl ?_
              refine hv_if_ne (tgt := 210) dX12_expression_188 (by decide) (fun c_188 => ?_) (fun c_188 => absurd c_188 ((by decide)))
              refine hv_aload_n dX12_expression_210 rfl ?_
              refine hv_aload_n dX12_expression_211 rfl ?_
              refine hv_bipush (v := 10) dX12_expression_212 (by decide) ?_
              refine hv_cv1 (d_is (k := 31) (by decide) (by decide) t1 hm) dX12_expression_214 ml_X12_221 mk_X12_is (by first | rfl | assumption) rfl rfl rfl rfl rfl ?_
              rintro _ _ _ _ ⟨rfl, rfl, rfl, rfl⟩
              rw [isM_f (by omega)]
              refine hv_if_ne (tgt := 229) dX12_expression_217 (by decide) (fun c_217 => absurd ((show bI false = 0 by decide)) c_217) (fun c_217 => ?_)
              refine hv_aload_n dX12_expression_220 rfl ?_
              refine hv_bipush (v := 15) dX12_expression_221 (by decide) ?_
              refine hv_cv1 (d_is (k := 32) (by decide) (by decide) t1 hm) dX12_expression_223 ml_X12_221 mk_X12_is (by first | rfl | assumption) rfl rfl rfl rfl rfl ?_
              rintro _ _ _ _ ⟨rfl, rfl, rfl, rfl⟩
              rw [isM_f (by omega)]
              refine hv_if_eq (tgt := 233) dX12_expression_226 (by decide) (fun c_226 => ?_) (fun c_226 => absurd ((show bI false = 0 by decide)) c_226)
              refine hv_iconst (v := 0) dX12_expression_233 (by decide) ?_
              refine hv_cv1 (d_comesOut (b := false) (hi := hi) i1 (wf_is i2) (by omega) (by omega) hh) dX12_expression_234 ml_X12_311 mk_X12_comesOut (by first | rfl | assumption) rfl rfl rfl rfl rfl ?_
              rintro _ _ σ2 _ ⟨rfl, rfl, rfl, a1, a2, a3, a4⟩
              exact push σ2 a1 a2 (by rw [decide_eq_false (show ¬ 31 ≤ kd f n a by omega)]; exact a3) a4
            · skip
              refine hv_aload_n dX12_expression_96 rfl ?_
              refine hv_bipush (v := 7) dX12_expression_97 (by decide) ?_
              refine hv_cv1 (d_is (k := 35) (by decide) (by decide) t1 hm) dX12_expression_99 ml_X12_221 mk_X12_is (by first | rfl | assumption) rfl rfl rfl rfl rfl ?_
              rintro _ _ _ _ ⟨rfl, rfl, rfl, rfl⟩
              rw [isM_f (by omega)]
              refine hv_if_eq (tgt := 145) dX12_expression_102 (by decide) (fun c_102 => ?_) (fun c_102 => absurd ((show bI false = 0 by decide)) c_102)
              refine hv_aload_n dX12_expression_145 rfl ?_
              refine hv_bipush (v := 8) dX12_expression_146 (by decide) ?_
              refine hv_cv1 (d_is (k := 29) (by decide) (by decide) t1 hm) dX12_expression_148 ml_X12_221 mk_X12_is (by first | rfl | assumption) rfl rfl rfl rfl rfl ?_
              rintro _ _ _ _ ⟨rfl, rfl, rfl, rfl⟩
              rw [isM_f (by omega)]
              refine hv_if_ne (tgt := 181) dX12_expression_151 (by decide) (fun c_151 => absurd ((show bI false = 0 by decide)) c_151) (fun c_151 => ?_)
              refine hv_aload_n dX12_expression_154 rfl ?_
              refine hv_bipush (v := 9) dX12_expression_155 (by decide) ?_
              refine hv_cv1 (d_is (k := 30) (by decide) (by decide) t1 hm) dX12_expression_157 ml_X12_221 mk_X12_is (by first | rfl | assumption) rfl rfl rfl rfl rfl ?_
              rintro _ _ _ _ ⟨rfl, rfl, rfl, rfl⟩
              rw [isM_t q]
              refine hv_if_ne (tgt := 181) dX12_expression_160 (by decide) (fun c_160 => ?_) (fun c_160 => absurd c_160 ((show ¬ bI true = 0 by decide)))
              refine hv_iconst (v := 1) dX12_expression_181 (by decide) ?_
              refine hv_goto (tgt := 186) dX12_expression_182 (by decide) ?_
              refine hv_istore_n dX12_expression_186 rfl rfl ?_
              refine hv_iload_n dX12_expression_187 rfl ?_
              refine hv_if_ne (tgt := 210) dX12_expression_188 (by decide) (fun c_188 => ?_) (fun c_188 => absurd c_188 ((by decide)))
              refine hv_aload_n dX12_expression_210 rfl ?_
              refine hv_aload_n dX12_expression_211 rfl ?_
              refine hv_bipush (v := 10) dX12_expression_212 (by decide) ?_
              refine hv_cv1 (d_is (k := 31) (by decide) (by decide) t1 hm) dX12_expression_214 ml_X12_221 mk_X12_is (by first | rfl | assumption) rfl rfl rfl rfl rfl ?_
              rintro _ _ _ _ ⟨rfl, rfl, rfl, rfl⟩
              rw [isM_f (by omega)]
              refine hv_if_ne (tgt := 229) dX12_expression_217 (by decide) (fun c_217 => absurd ((show bI false = 0 by decide)) c_217) (fun c_217 => ?_)
              refine hv_aload_n dX12_expression_220 rfl ?_
              refine hv_bipush (v := 15) dX12_expression_221 (by decide) ?_
              refine hv_cv1 (d_is (k := 32) (by decide) (by decide) t1 hm) dX12_expression_223 ml_X12_221 mk_X12_is (by first | rfl | assumption) rfl rfl rfl rfl rfl ?_
              rintro _ _ _ _ ⟨rfl, rfl, rfl, rfl⟩
              rw [isM_f (by omega)]
              refine hv_if_eq (tgt := 233) dX12_expression_226 (by decide) (fun c_226 => ?_) (fun c_226 => absurd ((show bI false = 0 by decide)) c_226)
              refine hv_iconst (v := 0) dX12_expression_233 (by decide) ?_
              refine hv_cv1 (d_comesOut (b := false) (hi := hi) i1 (wf_is i2) (by omega) (by omega) hh) dX12_expression_234 ml_X12_311 mk_X12_comesOut (by first | rfl | assumption) rfl rfl rfl rfl rfl ?_
              rintro _ _ σ2 _ ⟨rfl, rfl, rfl, a1, a2, a3, a4⟩
              exact push σ2 a1 a2 (by rw [decide_eq_false (show ¬ 31 ≤ kd f n a by omega)]; exact a3) a4
            · skip
              refine hv_aload_n dX12_expression_96 rfl ?_
              refine hv_bipush (v := 7) dX12_expression_97 (by decide) ?_
              refine hv_cv1 (d_is (k := 35) (by decide) (by decide) t1 hm) dX12_expression_99 ml_X12_221 mk_X12_is (by first | rfl | assumption) rfl rfl rfl rfl rfl ?_
              rintro _ _ _ _ ⟨rfl, rfl, rfl, rfl⟩
              rw [isM_f (by omega)]
              refine hv_if_eq (tgt := 145) dX12_expression_102 (by decide) (fun c_102 => ?_) (fun c_102 => absurd ((show bI false = 0 by decide)) c_102)
              refine hv_aload_n dX12_expression_145 rfl ?_
              refine hv_bipush (v := 8) dX12_expression_146 (by decide) ?_
              refine hv_cv1 (d_is (k := 29) (by decide) (by decide) t1 hm) dX12_expression_148 ml_X12_221 mk_X12_is (by first | rfl | assumption) rfl rfl rfl rfl rfl ?_
              rintro _ _ _ _ ⟨rfl, rfl, rfl, rfl⟩
              rw [isM_f (by omega)]
              refine hv_if_ne (tgt := 181) dX12_expression_151 (by decide) (fun c_151 => absurd ((show bI false = 0 by decide)) c_151) (fun c_151 => ?_)
              refine hv_aload_n dX12_expression_154 rfl ?_
              refine hv_bipush (v := 9) dX12_expression_155 (by decide) ?_
              refine hv_cv1 (d_is (k := 30) (by decide) (by decide) t1 hm) dX12_expression_157 ml_X12_221 mk_X12_is (by first | rfl | assumption) rfl rfl rfl rfl rfl ?_
              rintro _ _ _ _ ⟨rfl, rfl, rfl, rfl⟩
              rw [isM_f (by omega)]
              refine hv_if_ne (tgt := 181) dX12_expression_160 (by decide) (fun c_160 => absurd ((show bI false = 0 by decide)) c_160) (fun c_160 => ?_)
              refine hv_aload_n dX12_expression_163 rfl ?_
              refine hv_bipush (v := 10) dX12_expression_164 (by decide) ?_
              refine hv_cv1 (d_is (k := 31) (by decide) (by decide) t1 hm) dX12_expression_166 ml_X12_221 mk_X12_is (by first | rfl | assumption) rfl rfl rfl rfl rfl ?_
              rintro _ _ _ _ ⟨rfl, rfl, rfl, rfl⟩
              rw [isM_t q]
              refine hv_if_ne (tgt := 181) dX12_expression_169 (by decide) (fun c_169 => ?_) (fun c_169 => absurd c_169 ((show ¬ bI true = 0 by decide)))
              refine hv_iconst (v := 1) dX12_expression_181 (by decide) ?_
              refine hv_goto (tgt := 186) dX12_expression_182 (by decide) ?_
              refine hv_istore_n dX12_expression_186 rfl rfl ?_
              refine hv_iload_n dX12_expression_187 rfl ?_
              refine hv_if_ne (tgt := 210) dX12_expression_188 (by decide) (fun c_188 => ?_) (fun c_188 => absurd c_188 ((by decide)))
              refine hv_aload_n dX12_expression_210 rfl ?_
              refine hv_aload_n dX12_expression_211 rfl ?_
              refine hv_bipush (v := 10) dX12_expression_212 (by decide) ?_
              refine hv_cv1 (d_is (k := 31) (by decide) (by decide) t1 hm) dX12_expression_214 ml_X12_221 mk_X12_is (by first | rfl | assumption) rfl rfl rfl rfl rfl ?_
              rintro _ _ _ _ ⟨rfl, rfl, rfl, rfl⟩
              rw [isM_t q]
              refine hv_if_ne (tgt := 229) dX12_expression_217 (by decide) (fun c_217 => ?_) (fun c_217 => absurd c_217 ((show ¬ bI true = 0 by decide)))
              refine hv_iconst (v := 1) dX12_expression_229 (by decide) ?_
              refine hv_goto (tgt := 234) dX12_expression_230 (by decide) ?_
              refine hv_cv1 (d_comesOut (b := true) (hi := hi) i1 (wf_is i2) (by omega) (by omega) hh) dX12_expression_234 ml_X12_311 mk_X12_comesOut (by first | rfl | assumption) rfl rfl rfl rfl rfl ?_
              rintro _ _ σ2 _ ⟨rfl, rfl, rfl, a1, a2, a3, a4⟩
              exact push σ2 a1 a2 (by rw [decide_eq_true (show 31 ≤ kd f n a by omega)]; exact a3) a4
            · skip
              refine hv_aload_n dX12_expression_96 rfl ?_
              refine hv_bipush (v := 7) dX12_expression_97 (by decide) ?_
              refine hv_cv1 (d_is (k := 35) (by decide) (by decide) t1 hm) dX12_expression_99 ml_X12_221 mk_X12_is (by first | rfl | assumption) rfl rfl rfl rfl rfl ?_
              rintro _ _ _ _ ⟨rfl, rfl, rfl, rfl⟩
              rw [isM_f (by omega)]
              refine hv_if_eq (tgt := 145) dX12_expression_102 (by decide) (fun c_102 => ?_) (fun c_102 => absurd ((show bI false = 0 by decide)) c_102)
              refine hv_aload_n dX12_expression_145 rfl ?_
              refine hv_bipush (v := 8) dX12_expression_146 (by decide) ?_
              refine hv_cv1 (d_is (k := 29) (by decide) (by decide) t1 hm) dX12_expression_148 ml_X12_221 mk_X12_is (by first | rfl | assumption) rfl rfl rfl rfl rfl ?_
              rintro _ _ _ _ ⟨rfl, rfl, rfl, rfl⟩
              rw [isM_f (by omega)]
              refine hv_if_ne (tgt := 181) dX12_expression_151 (by decide) (fun c_151 => absurd ((show bI false = 0 by decide)) c_151) (fun c_151 => ?_)
              refine hv_aload_n dX12_expression_154 rfl ?_
              refine hv_bipush (v := 9) dX12_expression_155 (by decide) ?_
              refine hv_cv1 (d_is (k := 30) (by decide) (by decide) t1 hm) dX12_expression_157 ml_X12_221 mk_X12_is (by first | rfl | assumption) rfl rfl rfl rfl rfl ?_
              rintro _ _ _ _ ⟨rfl, rfl, rfl, rfl⟩
              rw [isM_f (by omega)]
              refine hv_if_ne (tgt := 181) dX12_expression_160 (by decide) (fun c_160 => absurd ((show bI false = 0 by decide)) c_160) (fun c_160 => ?_)
              refine hv_aload_n dX12_expression_163 rfl ?_
              refine hv_bipush (v := 10) dX12_expression_164 (by decide) ?_
              refine hv_cv1 (d_is (k := 31) (by decide) (by decide) t1 hm) dX12_expression_166 ml_X12_221 mk_X12_is (by first | rfl | assumption) rfl rfl rfl rfl rfl ?_
              rintro _ _ _ _ ⟨rfl, rfl, rfl, rfl⟩
              rw [isM_f (by omega)]
              refine hv_if_ne (tgt := 181) dX12_expression_169 (by decide) (fun c_169 => absurd ((show bI false = 0 by decide)) c_169) (fun c_169 => ?_)
              refine hv_aload_n dX12_expression_172 rfl ?_
              refine hv_bipush (v := 15) dX12_expression_173 (by decide) ?_
              refine hv_cv1 (d_is (k := 32) (by decide) (by decide) t1 hm) dX12_expression_175 ml_X12_221 mk_X12_is (by first | rfl | assumption) rfl rfl rfl rfl rfl ?_
              rintro _ _ _ _ ⟨rfl, rfl, rfl, rfl⟩
              rw [isM_t q]
              refine hv_if_eq (tgt := 185) dX12_expression_178 (by decide) (fun c_178 => absurd c_178 ((show ¬ bI true = 0 by decide))) (fun c_178 => ?_)
              refine hv_iconst (v := 1) dX12_expression_181 (by decide) ?_
              refine hv_goto (tgt := 186) dX12_expression_182 (by decide) ?_
              refine hv_istore_n dX12_expression_186 rfl rfl ?_
              refine hv_iload_n dX12_expression_187 rfl ?_
              refine hv_if_ne (tgt := 210) dX12_expression_188 (by decide) (fun c_188 => ?_) (fun c_188 => absurd c_188 ((by decide)))
              refine hv_aload_n dX12_expression_210 rfl ?_
              refine hv_aload_n dX12_expression_211 rfl ?_
              refine hv_bipush (v := 10) dX12_expression_212 (by decide) ?_
              refine hv_cv1 (d_is (k := 31) (by decide) (by decide) t1 hm) dX12_expression_214 ml_X12_221 mk_X12_is (by first | rfl | assumption) rfl rfl rfl rfl rfl ?_
              rintro _ _ _ _ ⟨rfl, rfl, rfl, rfl⟩
              rw [isM_f (by omega)]
              refine hv_if_ne (tgt := 229) dX12_expression_217 (by decide) (fun c_217 => absurd ((show bI false = 0 by decide)) c_217) (fun c_217 => ?_)
              refine hv_aload_n dX12_expression_220 rfl ?_
              refine hv_bipush (v := 15) dX12_expression_221 (by decide) ?_
              refine hv_cv1 (d_is (k := 32) (by decide) (by decide) t1 hm) dX12_expression_223 ml_X12_221 mk_X12_is (by first | rfl | assumption) rfl rfl rfl rfl rfl ?_
              rintro _ _ _ _ ⟨rfl, rfl, rfl, rfl⟩
              rw [isM_t q]
              refine hv_if_eq (tgt := 233) dX12_expression_226 (by decide) (fun c_226 => absurd c_226 ((show ¬ bI true = 0 by decide))) (fun c_226 => ?_)
              refine hv_iconst (v := 1) dX12_expression_229 (by decide) ?_
              refine hv_goto (tgt := 234) dX12_expression_230 (by decide) ?_
              refine hv_cv1 (d_comesOut (b := true) (hi := hi) i1 (wf_is i2) (by omega) (by omega) hh) dX12_expression_234 ml_X12_311 mk_X12_comesOut (by first | rfl | assumption) rfl rfl rfl rfl rfl ?_
              rintro _ _ σ2 _ ⟨rfl, rfl, rfl, a1, a2, a3, a4⟩
              exact push σ2 a1 a2 (by rw [decide_eq_true (show 31 ≤ kd f n a by omega)]; exact a3) a4
          · rw [if_neg cop] at hr1
            by_cases o0 : 0 < opn W
            · rw [if_pos o0] at hr1
              have n35 : kd f n a ≠ 35 := fun z => c35 ⟨z, o0⟩
              refine hv_aload_n dX12_expression_96 rfl ?_
              refine hv_bipush (v := 7) dX12_expression_97 (by decide) ?_
              refine hv_cv1 (d_is (k := 35) (by decide) (by decide) t1 hm) dX12_expression_99 ml_X12_221 mk_X12_is (by first | rfl | assumption) rfl rfl rfl rfl rfl ?_
              rintro _ _ _ _ ⟨rfl, rfl, rfl, rfl⟩
              rw [isM_f n35]
              refine hv_if_eq (tgt := 145) dX12_expression_102 (by decide) (fun c_102 => ?_) (fun c_102 => absurd ((show bI false = 0 by decide)) c_102)
              refine hv_aload_n dX12_expression_145 rfl ?_
              refine hv_bipush (v := 8) dX12_expression_146 (by decide) ?_
              refine hv_cv1 (d_is (k := 29) (by decide) (by decide) t1 hm) dX12_expression_148 ml_X12_221 mk_X12_is (by first | rfl | assumption) rfl rfl rfl rfl rfl ?_
              rintro _ _ _ _ ⟨rfl, rfl, rfl, rfl⟩
              rw [isM_f (by omega)]
              refine hv_if_ne (tgt := 181) dX12_expression_151 (by decide) (fun c_151 => absurd ((show bI false = 0 by decide)) c_151) (fun c_151 => ?_)
              refine hv_aload_n dX12_expression_154 rfl ?_
              refine hv_bipush (v := 9) dX12_expression_155 (by decide) ?_
              refine hv_cv1 (d_is (k := 30) (by decide) (by decide) t1 hm) dX12_expression_157 ml_X12_221 mk_X12_is (by first | rfl | assumption) rfl rfl rfl rfl rfl ?_
              rintro _ _ _ _ ⟨rfl, rfl, rfl, rfl⟩
              rw [isM_f (by omega)]
              refine hv_if_ne (tgt := 181) dX12_expression_160 (by decide) (fun c_160 => absurd ((show bI false = 0 by decide)) c_160) (fun c_160 => ?_)
              refine hv_aload_n dX12_expression_163 rfl ?_
              refine hv_bipush (v := 10) dX12_expression_164 (by decide) ?_
              refine hv_cv1 (d_is (k := 31) (by decide) (by decide) t1 hm) dX12_expression_166 ml_X12_221 mk_X12_is (by first | rfl | assumption) rfl rfl rfl rfl rfl ?_
              rintro _ _ _ _ ⟨rfl, rfl, rfl, rfl⟩
              rw [isM_f (by omega)]
              refine hv_if_ne (tgt := 181) dX12_expression_169 (by decide) (fun c_169 => absurd ((show bI false = 0 by decide)) c_169) (fun c_169 => ?_)
              refine hv_aload_n dX12_expression_172 rfl ?_
              refine hv_bipush (v := 15) dX12_expression_173 (by decide) ?_
              refine hv_cv1 (d_is (k := 32) (by decide) (by decide) t1 hm) dX12_expression_175 ml_X12_221 mk_X12_is (by first | rfl | assumption) rfl rfl rfl rfl rfl ?_
              rintro _ _ _ _ ⟨rfl, rfl, rfl, rfl⟩
              rw [isM_f (by omega)]
              refine hv_if_eq (tgt := 185) dX12_expression_178 (by decide) (fun c_178 => ?_) (fun c_178 => absurd ((show bI false = 0 by decide)) c_178)
              refine hv_iconst (v := 0) dX12_expression_185 (by decide) ?_
              refine hv_istore_n dX12_expression_186 rfl rfl ?_
              refine hv_iload_n dX12_expression_187 rfl ?_
              refine hv_if_ne (tgt := 210) dX12_expression_188 (by decide) (fun c_188 => absurd (rfl) c_188) (fun c_188 => ?_)
              refine hv_aload_n dX12_expression_191 rfl ?_
              refine hv_geti dX12_expression_192 fl_X12_230 (by first | rfl | assumption) rfl ?_
              refine hv_iload_n dX12_expression_195 rfl ?_
              refine hv_icmp_le (tgt := 204) dX12_expression_196 (by decide) (fun c_196 => absurd c_196 ((by rw [i4]; exact nI_nle (by omega) (by omega)))) (fun c_196 => ?_)
              refine hv_aload_n dX12_expression_199 rfl ?_
              refine hv_iconst (v := 1) dX12_expression_200 (by decide) ?_
              refine hv_cv1 (d_fail (k := 1) rfl (Or.inl rfl) t1 hm) dX12_expression_201 ml_X12_218 mk_X12_fail (by first | rfl | assumption) rfl rfl rfl rfl rfl ?_
              rintro _ _ σ2 _ ⟨rfl, rfl, rfl, a1, a2, a3⟩
              have i1' : yW p0 W c σ2 := ⟨by rw [a2 47 (by decide)]; exact i1.1, by rw [a1 95 (by decide)]; exact i1.2.1, by rw [a2 43 (by decide)]; exact i1.2.2.1, by rw [a1 93 (by decide), a1 94 (by decide)]; exact i1.2.2.2⟩
              refine hv_aload_n dX12_expression_204 rfl ?_
              refine hv_iconst (v := 0) dX12_expression_205 (by decide) ?_
              refine hv_cv1 (d_comesOut (b := false) (hi := hi) i1' (wf_is i2) (by omega) (by omega) hh) dX12_expression_206 ml_X12_311 mk_X12_comesOut (by first | rfl | assumption) rfl rfl rfl rfl rfl ?_
              rintro _ _ σ3 _ ⟨rfl, rfl, rfl, b1, b2, b3, b4⟩
              refine hv_vret dX12_expression_209 rfl ?_
              exact out (1, a) σ3 (Option.some.inj hr1).symm (off_tr (off_tr i6 a1 (Z := xYd) (by decide) (by decide)) b1 (by decide) (by decide)) (kM_tr (kM_tr i7 a2 (Z := fEx) (by decide) (by decide)) b2 (by decide) (by decide)) (cdF_tr (cdF_tr i8 (cdF_e (a1 93 (by decide)) (a1 94 (by decide))) (Nat.le_refl _)) b4 (by omega)) (mSt_of a3 (b2 11 (by decide)) (b2 13 (by decide)) (b2 14 (by decide)))
            · rw [if_neg o0] at hr1
              have hR := (Option.some.inj hr1).symm
              have o0 : opn W = 0 := by omega
              by_cases c5 : kd f n a = 35
              · skip
                refine hv_aload_n dX12_expression_96 rfl ?_
                refine hv_bipush (v := 7) dX12_expression_97 (by decide) ?_
                refine hv_cv1 (d_is (k := 35) (by decide) (by decide) t1 hm) dX12_expression_99 ml_X12_221 mk_X12_is (by first | rfl | assumption) rfl rfl rfl rfl rfl ?_
                rintro _ _ _ _ ⟨rfl, rfl, rfl, rfl⟩
                rw [isM_t c5]
                refine hv_if_eq (tgt := 145) dX12_expression_102 (by decide) (fun c_102 => absurd c_102 ((show ¬ bI true = 0 by decide))) (fun c_102 => ?_)
                refine hv_aload_n dX12_expression_105 rfl ?_
                refine hv_geti dX12_expression_106 fl_X12_230 (by first | rfl | assumption) rfl ?_
                refine hv_iload_n dX12_expression_109 rfl ?_
                refine hv_icmp_le (tgt := 145) dX12_expression_110 (by decide) (fun c_110 => ?_) (fun c_110 => absurd ((by rw [i4, o0]; decide)) c_110)
                refine hv_aload_n dX12_expression_145 rfl ?_
                refine hv_bipush (v := 8) dX12_expression_146 (by decide) ?_
                refine hv_cv1 (d_is (k := 29) (by decide) (by decide) t1 hm) dX12_expression_148 ml_X12_221 mk_X12_is (by first | rfl | assumption) rfl rfl rfl rfl rfl ?_
                rintro _ _ _ _ ⟨rfl, rfl, rfl, rfl⟩
                rw [isM_f (by omega)]
                refine hv_if_ne (tgt := 181) dX12_expression_151 (by decide) (fun c_151 => absurd ((show bI false = 0 by decide)) c_151) (fun c_151 => ?_)
                refine hv_aload_n dX12_expression_154 rfl ?_
                refine hv_bipush (v := 9) dX12_expression_155 (by decide) ?_
                refine hv_cv1 (d_is (k := 30) (by decide) (by decide) t1 hm) dX12_expression_157 ml_X12_221 mk_X12_is (by first | rfl | assumption) rfl rfl rfl rfl rfl ?_
                rintro _ _ _ _ ⟨rfl, rfl, rfl, rfl⟩
                rw [isM_f (by omega)]
                refine hv_if_ne (tgt := 181) dX12_expression_160 (by decide) (fun c_160 => absurd ((show bI false = 0 by decide)) c_160) (fun c_160 => ?_)
                refine hv_aload_n dX12_expression_163 rfl ?_
                refine hv_bipush (v := 10) dX12_expression_164 (by decide) ?_
                refine hv_cv1 (d_is (k := 31) (by decide) (by decide) t1 hm) dX12_expression_166 ml_X12_221 mk_X12_is (by first | rfl | assumption) rfl rfl rfl rfl rfl ?_
                rintro _ _ _ _ ⟨rfl, rfl, rfl, rfl⟩
                rw [isM_f (by omega)]
                refine hv_if_ne (tgt := 181) dX12_expression_169 (by decide) (fun c_169 => absurd ((show bI false = 0 by decide)) c_169) (fun c_169 => ?_)
                refine hv_aload_n dX12_expression_172 rfl ?_
                refine hv_bipush (v := 15) dX12_expression_173 (by decide) ?_
                refine hv_cv1 (d_is (k := 32) (by decide) (by decide) t1 hm) dX12_expression_175 ml_X12_221 mk_X12_is (by first | rfl | assumption) rfl rfl rfl rfl rfl ?_
                rintro _ _ _ _ ⟨rfl, rfl, rfl, rfl⟩
                rw [isM_f (by omega)]
                refine hv_if_eq (tgt := 185) dX12_expression_178 (by decide) (fun c_178 => ?_) (fun c_178 => absurd ((show bI false = 0 by decide)) c_178)
                refine hv_iconst (v := 0) dX12_expression_185 (by decide) ?_
                refine hv_istore_n dX12_expression_186 rfl rfl ?_
                refine hv_iload_n dX12_expression_187 rfl ?_
                refine hv_if_ne (tgt := 210) dX12_expression_188 (by decide) (fun c_188 => absurd (rfl) c_188) (fun c_188 => ?_)
                refine hv_aload_n dX12_expression_191 rfl ?_
                refine hv_geti dX12_expression_192 fl_X12_230 (by first | rfl | assumption) rfl ?_
                refine hv_iload_n dX12_expression_195 rfl ?_
                refine hv_icmp_le (tgt := 204) dX12_expression_196 (by decide) (fun c_196 => ?_) (fun c_196 => absurd ((by rw [i4, o0]; decide)) c_196)
                refine hv_aload_n dX12_expression_204 rfl ?_
                refine hv_iconst (v := 0) dX12_expression_205 (by decide) ?_
                refine hv_cv1 (d_comesOut (b := false) (hi := hi) i1 (wf_is i2) (by omega) (by omega) hh) dX12_expression_206 ml_X12_311 mk_X12_comesOut (by first | rfl | assumption) rfl rfl rfl rfl rfl ?_
                rintro _ _ σ3 _ ⟨rfl, rfl, rfl, b1, b2, b3, b4⟩
                refine hv_vret dX12_expression_209 rfl ?_
                rw [← hQ, hR]
                exact ⟨rfl, rfl, rfl, off_tr i6 b1 (by decide) (by decide), kM_tr i7 b2 (by decide) (by decide), cdF_tr i8 b4 (by omega), mSt_of hm (b2 11 (by decide)) (b2 13 (by decide)) (b2 14 (by decide)), fun b d q => (by cases q; exact ⟨b3.2.2.1, b3.2.2.2, by rw [b2 12 (by decide), i4, o0]; rfl⟩)⟩
              · skip
                refine hv_aload_n dX12_expression_96 rfl ?_
                refine hv_bipush (v := 7) dX12_expression_97 (by decide) ?_
                refine hv_cv1 (d_is (k := 35) (by decide) (by decide) t1 hm) dX12_expression_99 ml_X12_221 mk_X12_is (by first | rfl | assumption) rfl rfl rfl rfl rfl ?_
                rintro _ _ _ _ ⟨rfl, rfl, rfl, rfl⟩
                rw [isM_f c5]
                refine hv_if_eq (tgt := 145) dX12_expression_102 (by decide) (fun c_102 => ?_) (fun c_102 => absurd ((show bI false = 0 by decide)) c_102)
                refine hv_aload_n dX12_expression_145 rfl ?_
                refine hv_bipush (v := 8) dX12_expression_146 (by decide) ?_
                refine hv_cv1 (d_is (k := 29) (by decide) (by decide) t1 hm) dX12_expression_148 ml_X12_221 mk_X12_is (by first | rfl | assumption) rfl rfl rfl rfl rfl ?_
                rintro _ _ _ _ ⟨rfl, rfl, rfl, rfl⟩
                rw [isM_f (by omega)]
                refine hv_if_ne (tgt := 181) dX12_expression_151 (by decide) (fun c_151 => absurd ((show bI false = 0 by decide)) c_151) (fun c_151 => ?_)
                refine hv_aload_n dX12_expression_154 rfl ?_
                refine hv_bipush (v := 9) dX12_expression_155 (by decide) ?_
                refine hv_cv1 (d_is (k := 30) (by decide) (by decide) t1 hm) dX12_expression_157 ml_X12_221 mk_X12_is (by first | rfl | assumption) rfl rfl rfl rfl rfl ?_
                rintro _ _ _ _ ⟨rfl, rfl, rfl, rfl⟩
                rw [isM_f (by omega)]
                refine hv_if_ne (tgt := 181) dX12_expression_160 (by decide) (fun c_160 => absurd ((show bI false = 0 by decide)) c_160) (fun c_160 => ?_)
                refine hv_aload_n dX12_expression_163 rfl ?_
                refine hv_bipush (v := 10) dX12_expression_164 (by decide) ?_
                refine hv_cv1 (d_is (k := 31) (by decide) (by decide) t1 hm) dX12_expression_166 ml_X12_221 mk_X12_is (by first | rfl | assumption) rfl rfl rfl rfl rfl ?_
                rintro _ _ _ _ ⟨rfl, rfl, rfl, rfl⟩
                rw [isM_f (by omega)]
                refine hv_if_ne (tgt := 181) dX12_expression_169 (by decide) (fun c_169 => absurd ((show bI false = 0 by decide)) c_169) (fun c_169 => ?_)
                refine hv_aload_n dX12_expression_172 rfl ?_
                refine hv_bipush (v := 15) dX12_expression_173 (by decide) ?_
                refine hv_cv1 (d_is (k := 32) (by decide) (by decide) t1 hm) dX12_expression_175 ml_X12_221 mk_X12_is (by first | rfl | assumption) rfl rfl rfl rfl rfl ?_
                rintro _ _ _ _ ⟨rfl, rfl, rfl, rfl⟩
                rw [isM_f (by omega)]
                refine hv_if_eq (tgt := 185) dX12_expression_178 (by decide) (fun c_178 => ?_) (fun c_178 => absurd ((show bI false = 0 by decide)) c_178)
                refine hv_iconst (v := 0) dX12_expression_185 (by decide) ?_
                refine hv_istore_n dX12_expression_186 rfl rfl ?_
                refine hv_iload_n dX12_expression_187 rfl ?_
                refine hv_if_ne (tgt := 210) dX12_expression_188 (by decide) (fun c_188 => absurd (rfl) c_188) (fun c_188 => ?_)
                refine hv_aload_n dX12_expression_191 rfl ?_
                refine hv_geti dX12_expression_192 fl_X12_230 (by first | rfl | assumption) rfl ?_
                refine hv_iload_n dX12_expression_195 rfl ?_
                refine hv_icmp_le (tgt := 204) dX12_expression_196 (by decide) (fun c_196 => ?_) (fun c_196 => absurd ((by rw [i4, o0]; decide)) c_196)
                refine hv_aload_n dX12_expression_204 rfl ?_
                refine hv_iconst (v := 0) dX12_expression_205 (by decide) ?_
                refine hv_cv1 (d_comesOut (b := false) (hi := hi) i1 (wf_is i2) (by omega) (by omega) hh) dX12_expression_206 ml_X12_311 mk_X12_comesOut (by first | rfl | assumption) rfl rfl rfl rfl rfl ?_
                rintro _ _ σ3 _ ⟨rfl, rfl, rfl, b1, b2, b3, b4⟩
                refine hv_vret dX12_expression_209 rfl ?_
                rw [← hQ, hR]
                exact ⟨rfl, rfl, rfl, off_tr i6 b1 (by decide) (by decide), kM_tr i7 b2 (by decide) (by decide), cdF_tr i8 b4 (by omega), mSt_of hm (b2 11 (by decide)) (b2 13 (by decide)) (b2 14 (by decide)), fun b d q => (by cases q; exact ⟨b3.2.2.1, b3.2.2.2, by rw [b2 12 (by decide), i4, o0]; rfl⟩)⟩
  have q64 : va_up σ 64 (upd (σ 64) 47 0) 64 = upd (σ 64) 47 0 := hup_eq
  refine hv_aload_n dX12_expression_0 rfl ?_
  refine hv_iconst (v := 0) dX12_expression_1 (by decide) ?_
  refine hv_puti dX12_expression_2 fl_X12_302 (by first | rfl | assumption) rfl rfl rfl ?_
  refine hv_aload_n dX12_expression_5 rfl ?_
  refine hv_geti dX12_expression_6 fl_X12_230 (by first | rfl | assumption) rfl ?_
  rw [q64, pk_un (by decide), ho]
  refine hv_istore_n dX12_expression_9 rfl rfl ?_
  refine hv_iconst (v := 1) dX12_expression_10 (by decide) ?_
  refine hv_istore_n dX12_expression_11 rfl rfl ?_
  refine hv_iload_n dX12_expression_12 rfl ?_
  refine hv_if_eq (tgt := 272) dX12_expression_13 (by decide) (fun c_13 => absurd c_13 ((by decide))) (fun c_13 => ?_)
  refine hv_aload_n dX12_expression_16 rfl ?_
  refine hv_geti dX12_expression_17 fl_X12_203 (by first | rfl | assumption) rfl ?_
  refine hv_if_ne (tgt := 272) dX12_expression_20 (by decide) (fun c_20 => absurd ((by rw [q64, pk_un (by decide)]; exact hs.1)) c_20) (fun c_20 => ?_)
  refine (main N).1 a0 [] [] _ hN ⟨⟨?_, trivial, ?_, trivial⟩, trivial, by decide, ?_, by show 0 + 0 + a0 ≤ a0 + 0; omega, off_up (fun _ _ => rfl) (by decide), kM_up (by decide), cdF_e rfl rfl⟩ ?_
  · rw [q64, pk_us]; rfl
  · rw [q64, pk_un (by decide)]; exact hp
  · rw [q64, pk_un (by decide)]; exact ho
  · exact mSt_of (s := .inr (a0, ())) hs (by rw [q64, pk_un (by decide)]) (by rw [q64, pk_un (by decide)]) (by rw [q64, pk_un (by decide)])
/-- an E behind a fault -/
theorem d_expressionF {f : hF} {n : Nat} {e : Nat × Nat} (hs : mSt f n (.inl e) σ) : hCal G (m_X12_expression (hQp [64] none (rr 38 51 x y) σ τ (kM [47] σ))) [.ref (hgA G 64)] shp (rr 38 51 x y) σ τ := by
  obtain ⟨z, t⟩ := e
  obtain ⟨h1, h2, h3⟩ := hs
  refine hv_enter pn_X12 rfl ?_
  refine hv_aload_n dX12_expression_0 rfl ?_
  refine hv_iconst (v := 0) dX12_expression_1 (by decide) ?_
  refine hv_puti dX12_expression_2 fl_X12_302 (by first | rfl | assumption) rfl rfl rfl ?_
  refine hv_aload_n dX12_expression_5 rfl ?_
  refine hv_geti dX12_expression_6 fl_X12_230 (by first | rfl | assumption) rfl ?_
  refine hv_istore_n dX12_expression_9 rfl rfl ?_
  refine hv_iconst (v := 1) dX12_expression_10 (by decide) ?_
  refine hv_istore_n dX12_expression_11 rfl rfl ?_
  refine hv_iload_n dX12_expression_12 rfl ?_
  refine hv_if_eq (tgt := 272) dX12_expression_13 (by decide) (fun c_13 => absurd c_13 ((by decide))) (fun c_13 => ?_)
  refine hv_aload_n dX12_expression_16 rfl ?_
  refine hv_geti dX12_expression_17 fl_X12_203 (by first | rfl | assumption) rfl ?_
  refine hv_if_ne (tgt := 272) dX12_expression_20 (by decide) (fun c_20 => ?_) (fun c_20 => absurd c_20 ((by rw [hup_eq, pk_un (by decide), h1]; exact nI_ne0 (by omega) (by omega))))
  refine hv_vret dX12_expression_272 rfl ?_
  exact ⟨rfl, rfl, rfl, off_up (fun _ _ => rfl) (by decide), kM_up (by decide)⟩
end S91

