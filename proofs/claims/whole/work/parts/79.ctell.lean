theorem rr_px {t d : Nat} {x y : Option Nat} {z : Nat} : va_up (rr t d x y) 7 (va_up (rr t d x y 7) 1 (some z)) = rr t d (some z) y := by
  funext k j
  unfold va_up
  by_cases h : k = 7
  · subst h
    rw [if_pos rfl]
    by_cases h2 : j = 1
    · subst h2; rfl
    · rw [if_neg h2]
      match j, h2 with
      | 0, _ => rfl
      | 1, h2 => exact absurd rfl h2
      | j + 2, _ => rfl
  · rw [if_neg h]
    have e : hrt t d (some z) y = (hrt t d x y).set 7 [some 3, some z] := rfl
    unfold rr
    rw [e, List.getD_eq_getElem?_getD (l := hrt t d x y), List.getD_eq_getElem?_getD (l := (hrt t d x y).set 7 [some 3, some z]), List.getElem?_set_ne (by omega)]
def dflL (k : Nat) : hLw := ([], [if k = 0 then (0, 10) else if k = 2 then (0, 5) else if k = 3 then (1, 0) else (0, 0)])
def lawOf (L : hLs) (k : Nat) : hLw := (L k).getD (dflL k)
/-- the laws that the class has put into steps -/
def lawsC (L : hLs) (sz : Nat) (σ : hS) : Prop := σ 58 5 = nI sz ∧ ∀ k, k < 5 → ∃ p, σ 61 k = nI p ∧ p + (encL p (lawOf L k)).length ≤ sz ∧ cdAt (σ 59) (σ 60) p (encL p (lawOf L k))
theorem lawsC_of {L : hLs} {sz : Nat} {σ σ' : hS} (h : lawsC L sz σ) (h1 : σ' 58 = σ 58) (h2 : σ' 59 = σ 59) (h3 : σ' 60 = σ 60) (h4 : σ' 61 = σ 61) : lawsC L sz σ' := by
  unfold lawsC; rw [h1, h2, h3, h4]; exact h
theorem lawsC_s {L : hLs} {sz k : Nat} {l : hLw} {σ σ' : hS} (h : lawsC L sz σ) (h1 : pLw sz (encL sz l) σ σ') (h2 : σ' 61 = upd (σ 61) k (nI sz)) : lawsC (setL L (some (k, l))) (sz + (encL sz l).length) σ' := by
  refine ⟨h1.2.1, fun j hj => ?_⟩
  by_cases e : j = k
  · subst e
    refine ⟨sz, by rw [h2, pk_us], ?_, ?_⟩
    · rw [show lawOf (setL L (some (j, l))) j = l by unfold lawOf setL; simp]; omega
    · rw [show lawOf (setL L (some (j, l))) j = l by unfold lawOf setL; simp]; exact h1.2.2.1
  · obtain ⟨p, p1, p2, p3⟩ := h.2 j hj
    have el : lawOf (setL L (some (k, l))) j = lawOf L j := by unfold lawOf setL; simp [e]
    rw [el]
    exact ⟨p, by rw [h2, pk_un e]; exact p1, by omega, cdAt_ext _ p sz p2 (fun i hi => (h1.2.2.2 i hi).1) (fun i hi => (h1.2.2.2 i hi).2) p3⟩
section S79
variable {G : hGl} {σ : hS} {τ : hT} {x y : Option Nat}
/-- one more of a sort is counted -/
abbrev cn7 (σ : hS) (j v : Nat) : hS := va_up σ 7 (upd (σ 7) j (nI v))
theorem cn7_at {j v i : Nat} : cn7 σ j v 7 i = upd (σ 7) j (nI v) i := congrFun (hup_eq (f := σ) (k := 7)) i
theorem pSt_cn {f : hF} {n j v : Nat} {s : hPR Unit} (h : pSt f n s σ) (h2 : j ≠ 2) (h6 : j ≠ 6) (h7 : j ≠ 7) : pSt f n s (cn7 σ j v) := by
  rcases s with ⟨z, t⟩ | ⟨a, u⟩
  · obtain ⟨g1, g2, g3, g4⟩ := h
    exact ⟨by rw [cn7_at, pk_un (Ne.symm h7)]; exact g1, g2, by rw [cn7_at, pk_un (Ne.symm h2)]; exact g3, g4⟩
  · obtain ⟨g1, g2, g3, g4⟩ := h
    exact ⟨by rw [cn7_at, pk_un (Ne.symm h7)]; exact g1, by rw [cn7_at, pk_un (Ne.symm h2)]; exact g2, by rw [cn7_at, pk_un (Ne.symm h6)]; exact g3, g4⟩
theorem k7_cn {j v : Nat} {σ1 : hS} (h : k7 σ σ1) : k7 (cn7 σ j v) (cn7 σ1 j v) := by
  intro i a b c
  show va_up σ1 7 (upd (σ1 7) j (nI v)) 7 i = va_up σ 7 (upd (σ 7) j (nI v)) 7 i
  rw [hup_eq, hup_eq]
  by_cases e : i = j
  · rw [e, pk_us, pk_us]
  · rw [pk_un e, pk_un e]; exact h i a b c
/-- behind the sort's own word -/
def hsX (K : Nat → Nat) (a : Nat) : hPR Unit := bd (tk K 23 a) (fun a1 _ => bd (intsX K 4 a1) (fun a2 _ => tk K 27 a2))
def hrX (K : Nat → Nat) (a : Nat) : hPR Unit := bd (tk K 23 a) (fun a1 _ => bd (tk K 23 a1) (fun a2 _ => tk K 27 a2))
def moX (K : Nat → Nat) (a : Nat) : hPR Unit := bd (tk K 23 a) (fun a1 _ => bd (nmsX K 401 a1) (fun a2 _ => tk K 27 a2))
theorem c_parseHouse {f : hF} {n : Nat} {s : hPR Unit} {h : Nat} (ht : tokC f n σ) (hs : pSt f n s σ) (hk : ∀ a u, s = .inr (a, u) → kd f n a ≠ 25 ∧ kd f n a ≠ 26) (h3 : σ 7 3 = nI h) (hh : h < 1000) : hCal G (m_X4_parseHouse (hQp [7] none (rr 38 51 x y) σ τ (fun σ' => k7 (cn7 σ 3 (h + 1)) σ' ∧ pSt f n (bd s (fun a _ => bd (srt (decide (h < 7)) a) (fun a _ => hsX (kd f n) a))) σ'))) [.ref (hgA G 7)] shp (rr 38 51 x y) σ τ := by
  refine hv_enter pn_X4 rfl ?_
  have loop : ∀ k i (s1 : hPR Unit) R (σ1 : hS), i + k = 4 → (∀ c, c ∉ [7] → σ1 c = σ c) → k7 (cn7 σ 3 (h + 1)) σ1 → pSt f n s1 σ1 → bd s1 (fun a1 _ => bd (intsX (kd f n) k a1) (fun a2 _ => tk (kd f n) 27 a2)) = R → hV G (m_X4_parseHouse (hQp [7] none (rr 38 51 x y) σ τ (fun σ' => k7 (cn7 σ 3 (h + 1)) σ' ∧ pSt f n R σ'))) 0 0 shp 28 [some (.ref (hgA G 7)), some (.int (nI i))] [] (rr 38 51 x y) σ1 τ := by
    intro k
    induction k with
    | zero =>
      intro i s1 R σ1 hi hσ hk7 h1 hR
      obtain rfl : i = 4 := by omega
      refine hv_iload_n dX4_parseHouse_28 rfl ?_
      refine hv_iconst (v := 4) dX4_parseHouse_29 (by decide) ?_
      refine hv_icmp_ge (tgt := 45) dX4_parseHouse_30 (by decide) (fun c_30 => ?_) (fun c_30 => absurd ((by decide)) c_30)
      refine hv_aload_n dX4_parseHouse_45 rfl ?_
      refine hv_bipush (v := 27) dX4_parseHouse_46 (by decide) ?_
      refine hv_cv1 (c_take (k := 27) (tokC_of ht hσ rfl) h1 (by decide) (by decide)) dX4_parseHouse_48 ml_X4_63 mk_X4_take (by first | rfl | assumption) rfl rfl rfl rfl rfl ?_
      rintro _ _ σ2 _ ⟨rfl, rfl, rfl, a1, a2, a3⟩
      refine hv_vret dX4_parseHouse_51 rfl ?_
      rw [← hR]; exact ⟨rfl, rfl, rfl, off_tr hσ a1 (by decide) (by decide), k7_tr hk7 a2, a3⟩
    | succ k ih =>
      intro i s1 R σ1 hi hσ hk7 h1 hR
      refine hv_iload_n dX4_parseHouse_28 rfl ?_
      refine hv_iconst (v := 4) dX4_parseHouse_29 (by decide) ?_
      refine hv_icmp_ge (tgt := 45) dX4_parseHouse_30 (by decide) (fun c_30 => absurd c_30 ((nI_ge (b := 4) (by omega) (by decide)))) (fun c_30 => ?_)
      refine hv_aload_n dX4_parseHouse_33 rfl ?_
      refine hv_bipush (v := 24) dX4_parseHouse_34 (by decide) ?_
      refine hv_cv1 (c_take (k := 24) (tokC_of ht hσ rfl) h1 (by decide) (by decide)) dX4_parseHouse_36 ml_X4_63 mk_X4_take (by first | rfl | assumption) rfl rfl rfl rfl rfl ?_
      rintro _ _ σ2 _ ⟨rfl, rfl, rfl, a1, a2, a3⟩
      refine hv_iinc dX4_parseHouse_39 rfl (nI_1 i) rfl rfl ?_
      refine hv_goto (tgt := 28) dX4_parseHouse_42 (by decide) ?_
      exact ih (i + 1) _ R σ2 (by omega) (off_tr hσ a1 (by decide) (by decide)) (k7_tr hk7 a2) a3 (by rw [← hR]; simp only [bd_assoc, intsX])
  refine hv_aload_n dX4_parseHouse_0 rfl ?_
  refine hv_aload_n dX4_parseHouse_1 rfl ?_
  refine hv_geti dX4_parseHouse_2 fl_X4_32 (by first | rfl | assumption) rfl ?_
  refine hv_bipush (v := 7) dX4_parseHouse_5 (by decide) ?_
  rw [h3]
  refine hv_cv2 (c_takeSort (told := h) (most := 7) ht hs hk hh (by decide)) dX4_parseHouse_7 ml_X4_66 mk_X4_takeSort (by first | rfl | assumption) rfl rfl rfl rfl rfl ?_
  rintro _ _ σ1 _ ⟨rfl, rfl, rfl, a1, a2, a3⟩
  have g1 : σ1 7 3 = nI h := (a2 3 (by decide) (by decide) (by decide)).trans h3
  refine hv_aload_n dX4_parseHouse_10 rfl ?_
  refine hv_dup dX4_parseHouse_11 rfl ?_
  refine hv_geti dX4_parseHouse_12 fl_X4_32 (by first | rfl | assumption) rfl ?_
  rw [g1]
  refine hv_iconst (v := 1) dX4_parseHouse_15 (by decide) ?_
  refine hv_iadd dX4_parseHouse_16 ?_
  rw [nI_1]
  have p1 := pSt_cn (j := 3) (v := h + 1) a3 (by decide) (by decide) (by decide)
  have o1 : ∀ c, c ∉ [7] → cn7 σ1 3 (h + 1) c = σ c := off_up a1 (by decide)
  have q1 : k7 (cn7 σ 3 (h + 1)) (cn7 σ1 3 (h + 1)) := k7_cn a2
  refine hv_puti dX4_parseHouse_17 fl_X4_32 (by first | rfl | assumption) rfl rfl rfl ?_
  refine hv_aload_n dX4_parseHouse_20 rfl ?_
  refine hv_bipush (v := 23) dX4_parseHouse_21 (by decide) ?_
  refine hv_cv1 (c_take (k := 23) (tokC_of ht o1 rfl) p1 (by decide) (by decide)) dX4_parseHouse_23 ml_X4_63 mk_X4_take (by first | rfl | assumption) rfl rfl rfl rfl rfl ?_
  rintro _ _ σ2 _ ⟨rfl, rfl, rfl, b1, b2, b3⟩
  refine hv_iconst (v := 0) dX4_parseHouse_26 (by decide) ?_
  refine hv_istore_n dX4_parseHouse_27 rfl rfl ?_
  exact loop 4 0 _ _ σ2 rfl (off_tr o1 b1 (by decide) (by decide)) (k7_tr q1 b2) b3 (by unfold hsX; simp only [bd_assoc])
theorem c_parseHearing {f : hF} {n : Nat} {s : hPR Unit} {r : Nat} (ht : tokC f n σ) (hs : pSt f n s σ) (hk : ∀ a u, s = .inr (a, u) → kd f n a ≠ 25 ∧ kd f n a ≠ 26) (h4 : σ 7 4 = nI r) (hh : r < 1000) : hCal G (m_X4_parseHearing (hQp [7] none (rr 38 51 x y) σ τ (fun σ' => k7 (cn7 σ 4 (r + 1)) σ' ∧ pSt f n (bd s (fun a _ => bd (srt (decide (r < 16)) a) (fun a _ => hrX (kd f n) a))) σ'))) [.ref (hgA G 7)] shp (rr 38 51 x y) σ τ := by
  refine hv_enter pn_X4 rfl ?_
  refine hv_aload_n dX4_parseHearing_0 rfl ?_
  refine hv_aload_n dX4_parseHearing_1 rfl ?_
  refine hv_geti dX4_parseHearing_2 fl_X4_35 (by first | rfl | assumption) rfl ?_
  refine hv_bipush (v := 16) dX4_parseHearing_5 (by decide) ?_
  rw [h4]
  refine hv_cv2 (c_takeSort (told := r) (most := 16) ht hs hk hh (by decide)) dX4_parseHearing_7 ml_X4_66 mk_X4_takeSort (by first | rfl | assumption) rfl rfl rfl rfl rfl ?_
  rintro _ _ σ1 _ ⟨rfl, rfl, rfl, a1, a2, a3⟩
  have g1 : σ1 7 4 = nI r := (a2 4 (by decide) (by decide) (by decide)).trans h4
  refine hv_aload_n dX4_parseHearing_10 rfl ?_
  refine hv_dup dX4_parseHearing_11 rfl ?_
  refine hv_geti dX4_parseHearing_12 fl_X4_35 (by first | rfl | assumption) rfl ?_
  rw [g1]
  refine hv_iconst (v := 1) dX4_parseHearing_15 (by decide) ?_
  refine hv_iadd dX4_parseHearing_16 ?_
  rw [nI_1]
  have p1 := pSt_cn (j := 4) (v := r + 1) a3 (by decide) (by decide) (by decide)
  have o1 : ∀ c, c ∉ [7] → cn7 σ1 4 (r + 1) c = σ c := off_up a1 (by decide)
  have q1 : k7 (cn7 σ 4 (r + 1)) (cn7 σ1 4 (r + 1)) := k7_cn a2
  refine hv_puti dX4_parseHearing_17 fl_X4_35 (by first | rfl | assumption) rfl rfl rfl ?_
  refine hv_aload_n dX4_parseHearing_20 rfl ?_
  refine hv_bipush (v := 23) dX4_parseHearing_21 (by decide) ?_
  refine hv_cv1 (c_take (k := 23) (tokC_of ht o1 rfl) p1 (by decide) (by decide)) dX4_parseHearing_23 ml_X4_63 mk_X4_take (by first | rfl | assumption) rfl rfl rfl rfl rfl ?_
  rintro _ _ σ2 _ ⟨rfl, rfl, rfl, b1, b2, b3⟩
  have o2 : ∀ c, c ∉ [7] → σ2 c = σ c := off_tr o1 b1 (by decide) (by decide)
  refine hv_aload_n dX4_parseHearing_26 rfl ?_
  refine hv_bipush (v := 23) dX4_parseHearing_27 (by decide) ?_
  refine hv_cv1 (c_take (k := 23) (tokC_of ht o2 rfl) b3 (by decide) (by decide)) dX4_parseHearing_29 ml_X4_63 mk_X4_take (by first | rfl | assumption) rfl rfl rfl rfl rfl ?_
  rintro _ _ σ3 _ ⟨rfl, rfl, rfl, d1, d2, d3⟩
  have o3 : ∀ c, c ∉ [7] → σ3 c = σ c := off_tr o2 d1 (by decide) (by decide)
  refine hv_aload_n dX4_parseHearing_32 rfl ?_
  refine hv_bipush (v := 27) dX4_parseHearing_33 (by decide) ?_
  refine hv_cv1 (c_take (k := 27) (tokC_of ht o3 rfl) d3 (by decide) (by decide)) dX4_parseHearing_35 ml_X4_63 mk_X4_take (by first | rfl | assumption) rfl rfl rfl rfl rfl ?_
  rintro _ _ σ4 _ ⟨rfl, rfl, rfl, h1, h2, h3⟩
  refine hv_vret dX4_parseHearing_38 rfl ?_
  refine ⟨rfl, rfl, rfl, off_tr o3 h1 (by decide) (by decide), k7_tr (k7_tr (k7_tr q1 b2) d2) h2, ?_⟩
  unfold hrX
  simp only [bd_assoc] at h3 ⊢
  exact h3
theorem nmsX_s (K : Nat → Nat) (k a : Nat) : nmsX K (k + 1) a = if K a = 23 then bd (pass a) (fun a _ => nmsX K k a) else .inr (a, ()) := rfl
theorem c_parseMotion {f : hF} {n : Nat} {s : hPR Unit} {m : Nat} (ht : tokC f n σ) (hs : pSt f n s σ) (hk : ∀ a u, s = .inr (a, u) → kd f n a ≠ 25 ∧ kd f n a ≠ 26) (h5 : σ 7 5 = nI m) (hh : m < 1000) : hCal G (m_X4_parseMotion (hQp [7] none (rr 38 51 x y) σ τ (fun σ' => k7 (cn7 σ 5 (m + 1)) σ' ∧ pSt f n (bd s (fun a _ => bd (srt (decide (m < 5)) a) (fun a _ => moX (kd f n) a))) σ'))) [.ref (hgA G 7)] shp (rr 38 51 x y) σ τ := by
  refine hv_enter pn_X4 rfl ?_
  have tail : ∀ (s1 : hPR Unit) R (σ1 : hS) (i : Int32), (∀ c, c ∉ [7] → σ1 c = σ c) → k7 (cn7 σ 5 (m + 1)) σ1 → pSt f n s1 σ1 → bd s1 (fun a2 _ => tk (kd f n) 27 a2) = R → hV G (m_X4_parseMotion (hQp [7] none (rr 38 51 x y) σ τ (fun σ' => k7 (cn7 σ 5 (m + 1)) σ' ∧ pSt f n R σ'))) 0 0 shp 64 [some (.ref (hgA G 7)), some (.int i)] [] (rr 38 51 x y) σ1 τ := by
    intro s1 R σ1 i hσ hk7 h1 hR
    refine hv_aload_n dX4_parseMotion_64 rfl ?_
    refine hv_bipush (v := 27) dX4_parseMotion_65 (by decide) ?_
    refine hv_cv1 (c_take (k := 27) (tokC_of ht hσ rfl) h1 (by decide) (by decide)) dX4_parseMotion_67 ml_X4_63 mk_X4_take (by first | rfl | assumption) rfl rfl rfl rfl rfl ?_
    rintro _ _ σ2 _ ⟨rfl, rfl, rfl, a1, a2, a3⟩
    refine hv_vret dX4_parseMotion_70 rfl ?_
    rw [← hR]; exact ⟨rfl, rfl, rfl, off_tr hσ a1 (by decide) (by decide), k7_tr hk7 a2, a3⟩
  have loop : ∀ k i (s1 : hPR Unit) R (σ1 : hS), i + k = 401 → (∀ c, c ∉ [7] → σ1 c = σ c) → k7 (cn7 σ 5 (m + 1)) σ1 → pSt f n s1 σ1 → bd s1 (fun a1 _ => bd (nmsX (kd f n) k a1) (fun a2 _ => tk (kd f n) 27 a2)) = R → hV G (m_X4_parseMotion (hQp [7] none (rr 38 51 x y) σ τ (fun σ' => k7 (cn7 σ 5 (m + 1)) σ' ∧ pSt f n R σ'))) 0 0 shp 27 [some (.ref (hgA G 7)), some (.int (nI i))] [] (rr 38 51 x y) σ1 τ := by
    intro k
    induction k with
    | zero =>
      intro i s1 R σ1 hi hσ hk7 h1 hR
      obtain rfl : i = 401 := by omega
      refine hv_iload_n dX4_parseMotion_27 rfl ?_
      refine hv_sipush (v := 400) dX4_parseMotion_28 (by decide) ?_
      refine hv_icmp_gt (tgt := 64) dX4_parseMotion_31 (by decide) (fun c_31 => ?_) (fun c_31 => absurd ((by decide)) c_31)
      exact tail s1 R σ1 _ hσ hk7 h1 (by rw [← hR]; rcases s1 with e | ⟨a, u⟩ <;> rfl)
    | succ k ih =>
      intro i s1 R σ1 hi hσ hk7 h1 hR
      rcases s1 with ⟨v, t⟩ | ⟨a, u⟩
      · have hne : ¬ σ1 7 7 = 0 := by rw [h1.1]; exact nI_ne0 (by have := h1.2.1; omega) (by have := h1.2.1; omega)
        refine hv_iload_n dX4_parseMotion_27 rfl ?_
        refine hv_sipush (v := 400) dX4_parseMotion_28 (by decide) ?_
        refine hv_icmp_gt (tgt := 64) dX4_parseMotion_31 (by decide) (fun c_31 => absurd c_31 ((nI_nlt (a := 400) (by omega) (by decide)))) (fun c_31 => ?_)
        refine hv_aload_n dX4_parseMotion_34 rfl ?_
        refine hv_geti dX4_parseMotion_35 fl_X4_41 (by first | rfl | assumption) rfl ?_
        refine hv_if_ne (tgt := 64) dX4_parseMotion_38 (by decide) (fun c_38 => ?_) (fun c_38 => absurd c_38 (hne))
        exact tail (.inl (v, t)) R σ1 _ hσ hk7 h1 hR
      · have hkl := kd_le f n a
        rw [bd_inr, nmsX_s] at hR
        by_cases c : kd f n a = 23
        · rw [if_pos c] at hR
          refine hv_iload_n dX4_parseMotion_27 rfl ?_
          refine hv_sipush (v := 400) dX4_parseMotion_28 (by decide) ?_
          refine hv_icmp_gt (tgt := 64) dX4_parseMotion_31 (by decide) (fun c_31 => absurd c_31 ((nI_nlt (a := 400) (by omega) (by decide)))) (fun c_31 => ?_)
          refine hv_aload_n dX4_parseMotion_34 rfl ?_
          refine hv_geti dX4_parseMotion_35 fl_X4_41 (by first | rfl | assumption) rfl ?_
          refine hv_if_ne (tgt := 64) dX4_parseMotion_38 (by decide) (fun c_38 => absurd (h1.1) c_38) (fun c_38 => ?_)
          refine hv_aload_n dX4_parseMotion_41 rfl ?_
          refine hv_geti dX4_parseMotion_42 fl_X4_29 (by first | rfl | assumption) rfl ?_
          refine hv_bipush (v := 23) dX4_parseMotion_45 (by decide) ?_
          rw [h1.2.2.1, c]
          refine hv_icmp_ne (tgt := 64) dX4_parseMotion_47 (by decide) (fun c_47 => absurd (rfl) c_47) (fun c_47 => ?_)
          refine hv_aload_n dX4_parseMotion_50 rfl ?_
          refine hv_aload_n dX4_parseMotion_51 rfl ?_
          refine hv_geti dX4_parseMotion_52 fl_X4_29 (by first | rfl | assumption) rfl ?_
          refine hv_cv1 (c_pass (tokC_of ht hσ rfl) h1 (fun b w q => by cases q; rw [c]; decide)) dX4_parseMotion_55 ml_X4_63 mk_X4_take (by first | rfl | assumption) rfl rfl rfl rfl rfl ?_
          rintro _ _ σ2 _ ⟨rfl, rfl, rfl, a1, a2, a3⟩
          refine hv_iinc dX4_parseMotion_58 rfl (nI_1 i) rfl rfl ?_
          refine hv_goto (tgt := 27) dX4_parseMotion_61 (by decide) ?_
          exact ih (i + 1) _ R σ2 (by omega) (off_tr hσ a1 (by decide) (by decide)) (k7_tr hk7 a2) a3 (by rw [← hR]; simp only [bd_assoc, bd_inr])
        · rw [if_neg c] at hR
          refine hv_iload_n dX4_parseMotion_27 rfl ?_
          refine hv_sipush (v := 400) dX4_parseMotion_28 (by decide) ?_
          refine hv_icmp_gt (tgt := 64) dX4_parseMotion_31 (by decide) (fun c_31 => absurd c_31 ((nI_nlt (a := 400) (by omega) (by decide)))) (fun c_31 => ?_)
          refine hv_aload_n dX4_parseMotion_34 rfl ?_
          refine hv_geti dX4_parseMotion_35 fl_X4_41 (by first | rfl | assumption) rfl ?_
          refine hv_if_ne (tgt := 64) dX4_parseMotion_38 (by decide) (fun c_38 => absurd (h1.1) c_38) (fun c_38 => ?_)
          refine hv_aload_n dX4_parseMotion_41 rfl ?_
          refine hv_geti dX4_parseMotion_42 fl_X4_29 (by first | rfl | assumption) rfl ?_
          refine hv_bipush (v := 23) dX4_parseMotion_45 (by decide) ?_
          rw [h1.2.2.1]
          refine hv_icmp_ne (tgt := 64) dX4_parseMotion_47 (by decide) (fun c_47 => ?_) (fun c_47 => absurd c_47 ((fun q => c ((nI_eq (b := 23) (by omega) (by decide)).mp q))))
          exact tail (.inr (a, u)) R σ1 _ hσ hk7 h1 hR
  refine hv_aload_n dX4_parseMotion_0 rfl ?_
  refine hv_aload_n dX4_parseMotion_1 rfl ?_
  refine hv_geti dX4_parseMotion_2 fl_X4_38 (by first | rfl | assumption) rfl ?_
  refine hv_iconst (v := 5) dX4_parseMotion_5 (by decide) ?_
  rw [h5]
  refine hv_cv2 (c_takeSort (told := m) (most := 5) ht hs hk hh (by decide)) dX4_parseMotion_6 ml_X4_66 mk_X4_takeSort (by first | rfl | assumption) rfl rfl rfl rfl rfl ?_
  rintro _ _ σ1 _ ⟨rfl, rfl, rfl, a1, a2, a3⟩
  have g1 : σ1 7 5 = nI m := (a2 5 (by decide) (by decide) (by decide)).trans h5
  refine hv_aload_n dX4_parseMotion_9 rfl ?_
  refine hv_dup dX4_parseMotion_10 rfl ?_
  refine hv_geti dX4_parseMotion_11 fl_X4_38 (by first | rfl | assumption) rfl ?_
  rw [g1]
  refine hv_iconst (v := 1) dX4_parseMotion_14 (by decide) ?_
  refine hv_iadd dX4_parseMotion_15 ?_
  rw [nI_1]
  have p1 := pSt_cn (j := 5) (v := m + 1) a3 (by decide) (by decide) (by decide)
  have o1 : ∀ c, c ∉ [7] → cn7 σ1 5 (m + 1) c = σ c := off_up a1 (by decide)
  have q1 : k7 (cn7 σ 5 (m + 1)) (cn7 σ1 5 (m + 1)) := k7_cn a2
  refine hv_puti dX4_parseMotion_16 fl_X4_38 (by first | rfl | assumption) rfl rfl rfl ?_
  refine hv_aload_n dX4_parseMotion_19 rfl ?_
  refine hv_bipush (v := 23) dX4_parseMotion_20 (by decide) ?_
  refine hv_cv1 (c_take (k := 23) (tokC_of ht o1 rfl) p1 (by decide) (by decide)) dX4_parseMotion_22 ml_X4_63 mk_X4_take (by first | rfl | assumption) rfl rfl rfl rfl rfl ?_
  rintro _ _ σ2 _ ⟨rfl, rfl, rfl, b1, b2, b3⟩
  refine hv_iconst (v := 0) dX4_parseMotion_25 (by decide) ?_
  refine hv_istore_n dX4_parseMotion_26 rfl rfl ?_
  exact loop 401 0 _ _ σ2 rfl (off_tr o1 b1 (by decide) (by decide)) (k7_tr q1 b2) b3 (by unfold moX; simp only [bd_assoc])
theorem c_parseNumber {f : hF} {n : Nat} {s : hPR Unit} (ht : tokC f n σ) (hs : pSt f n s σ) (hk : ∀ a u, s = .inr (a, u) → kd f n a ≠ 25 ∧ kd f n a ≠ 26) : hCal G (m_X4_parseNumber (hQp [7] none (rr 38 51 x y) σ τ (fun σ' => k7 σ σ' ∧ pSt f n (bd s (fun a _ => bd (pass a) (fun a1 _ => bd (tk (kd f n) 24 a1) (fun a2 _ => tk (kd f n) 27 a2)))) σ'))) [.ref (hgA G 7)] shp (rr 38 51 x y) σ τ := by
  refine hv_enter pn_X4 rfl ?_
  refine hv_aload_n dX4_parseNumber_0 rfl ?_
  refine hv_aload_n dX4_parseNumber_1 rfl ?_
  refine hv_geti dX4_parseNumber_2 fl_X4_29 (by first | rfl | assumption) rfl ?_
  refine hv_cv1 (c_pass ht hs hk) dX4_parseNumber_5 ml_X4_63 mk_X4_take (by first | rfl | assumption) rfl rfl rfl rfl rfl ?_
  rintro _ _ σ1 _ ⟨rfl, rfl, rfl, a1, a2, a3⟩
  refine hv_aload_n dX4_parseNumber_8 rfl ?_
  refine hv_bipush (v := 24) dX4_parseNumber_9 (by decide) ?_
  refine hv_cv1 (c_take (k := 24) (tokC_of ht a1 rfl) a3 (by decide) (by decide)) dX4_parseNumber_11 ml_X4_63 mk_X4_take (by first | rfl | assumption) rfl rfl rfl rfl rfl ?_
  rintro _ _ σ2 _ ⟨rfl, rfl, rfl, b1, b2, b3⟩
  have o2 : ∀ c, c ∉ [7] → σ2 c = σ c := off_tr a1 b1 (by decide) (by decide)
  refine hv_aload_n dX4_parseNumber_14 rfl ?_
  refine hv_bipush (v := 27) dX4_parseNumber_15 (by decide) ?_
  refine hv_cv1 (c_take (k := 27) (tokC_of ht o2 rfl) b3 (by decide) (by decide)) dX4_parseNumber_17 ml_X4_63 mk_X4_take (by first | rfl | assumption) rfl rfl rfl rfl rfl ?_
  rintro _ _ σ3 _ ⟨rfl, rfl, rfl, d1, d2, d3⟩
  refine hv_vret dX4_parseNumber_20 rfl ?_
  refine ⟨rfl, rfl, rfl, off_tr o2 d1 (by decide) (by decide), k7_tr (k7_tr a2 b2) d2, ?_⟩
  simp only [bd_assoc] at d3
  exact d3
end S79

