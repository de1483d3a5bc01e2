theorem rr_px {t d : Nat} {x y : Option Nat} {z : Nat} : va_up (rr t d x y) 7 (va_up (rr t d x y 7) 1 (some z)) = rr t d (some z) y := by
  funext k j
  unfold va_up
  by_cases h : k = 7
  · subst h
    rw [if_pos rfl]
    by_cases h2 : j = 1
    · subst h2; rfl
    · rw [if_neg h2]
      match j, h2 with
      | 0, _ => rfl
      | 1, h2 => exact absurd rfl h2
      | j + 2, _ => rfl
  · rw [if_neg h]
    have e : hrt t d (some z) y = (hrt t d x y).set 7 [some 3, some z] := rfl
    unfold rr
    rw [e, List.getD_eq_getElem?_getD (l := hrt t d x y), List.getD_eq_getElem?_getD (l := (hrt t d x y).set 7 [some 3, some z]), List.getElem?_set_ne (by omega)]
def dflL (k : Nat) : hLw := ([], [if k = 0 then (0, 10) else if k = 2 then (0, 5) else if k = 3 then (1, 0) else (0, 0)])
def lawOf (L : hLs) (k : Nat) : hLw := (L k).getD (dflL k)
/-- the laws that the class has put into steps -/
def lawsC (L : hLs) (sz : Nat) (σ : hS) : Prop := σ 58 5 = nI sz ∧ ∀ k, k < 5 → ∃ p, σ 61 k = nI p ∧ p + (encL p (lawOf L k)).length ≤ sz ∧ cdAt (σ 59) (σ 60) p (encL p (lawOf L k))
theorem lawsC_of {L : hLs} {sz : Nat} {σ σ' : hS} (h : lawsC L sz σ) (h1 : σ' 58 = σ 58) (h2 : σ' 59 = σ 59) (h3 : σ' 60 = σ 60) (h4 : σ' 61 = σ 61) : lawsC L sz σ' := by
  unfold lawsC; rw [h1, h2, h3, h4]; exact h
theorem lawsC_s {L : hLs} {sz k : Nat} {l : hLw} {σ σ' : hS} (h : lawsC L sz σ) (h1 : pLw sz (encL sz l) σ σ') (h2 : σ' 61 = upd (σ 61) k (nI sz)) : lawsC (setL L (some (k, l))) (sz + (encL sz l).length) σ' := by
  refine ⟨h1.2.1, fun j hj => ?_⟩
  by_cases e : j = k
  · subst e
    refine ⟨sz, by rw [h2, pk_us], ?_, ?_⟩
    · rw [show lawOf (setL L (some (j, l))) j = l by unfold lawOf setL; simp]; omega
    · rw [show lawOf (setL L (some (j, l))) j = l by unfold lawOf setL; simp]; exact h1.2.2.1
  · obtain ⟨p, p1, p2, p3⟩ := h.2 j hj
    have el : lawOf (setL L (some (k, l))) j = lawOf L j := by unfold lawOf setL; simp [e]
    rw [el]
    exact ⟨p, by rw [h2, pk_un e]; exact p1, by omega, cdAt_ext _ p sz p2 (fun i hi => (h1.2.2.2 i hi).1) (fun i hi => (h1.2.2.2 i hi).2) p3⟩
section S79
variable {G : hGl} {σ : hS} {τ : hT} {x y : Option Nat}
def srt (b : Bool) (a : Nat) : hPR Unit := if b = true then pass a else .inl (2, a)
theorem c_startSort {f : hF} {n : Nat} {s : hPR Unit} {b : Bool} (ht : tokC f n σ) (hs : pSt f n s σ) (hk : ∀ a u, s = .inr (a, u) → kd f n a ≠ 25 ∧ kd f n a ≠ 26) : hCal G (m_X4_startSort (hQp [7] none (rr 38 51 x y) σ τ (fun σ' => k7 σ σ' ∧ pSt f n (bd s (fun a _ => srt b a)) σ'))) [.ref (hgA G 7), .int (bI b)] shp (rr 38 51 x y) σ τ := by
  refine hv_enter pn_X4 rfl ?_
  cases b with
  | true =>
    refine hv_iload_n dX4_startSort_0 rfl ?_
    refine hv_if_ne (tgt := 9) dX4_startSort_1 (by decide) (fun c_1 => ?_) (fun c_1 => absurd c_1 ((show ¬ bI true = 0 by decide)))
    refine hv_aload_n dX4_startSort_9 rfl ?_
    refine hv_cv0 (c_pass ht hs hk) dX4_startSort_10 ml_X4_51 mk_X4_pass (by first | rfl | assumption) rfl rfl rfl rfl rfl ?_
    rintro _ _ σ1 _ ⟨rfl, rfl, rfl, a1, a2, a3⟩
    refine hv_vret dX4_startSort_13 rfl ?_
    exact ⟨rfl, rfl, rfl, a1, a2, a3⟩
  | false =>
    have h2 : pSt f n (bd s (fun a _ => srt false a)) (va_up σ 7 (upd (σ 7) 7 (if σ 7 7 = 0 then 2 else σ 7 7))) := by
      rcases s with ⟨v, t⟩ | ⟨a, u⟩
      · have hne : ¬ σ 7 7 = 0 := by rw [hs.1]; exact nI_ne0 (by have := hs.2.1; omega) (by have := hs.2.1; omega)
        refine pSt_of hs ?_
        rw [hup_eq, if_neg hne, upd_self rfl]
      · exact st_fail (v := 2) (Or.inr rfl) hs
    refine hv_iload_n dX4_startSort_0 rfl ?_
    refine hv_if_ne (tgt := 9) dX4_startSort_1 (by decide) (fun c_1 => absurd ((show bI false = 0 by decide)) c_1) (fun c_1 => ?_)
    refine hv_aload_n dX4_startSort_4 rfl ?_
    refine hv_iconst (v := 2) dX4_startSort_5 (by decide) ?_
    refine hv_cv1 (c_pfail) dX4_startSort_6 ml_X4_47 mk_X4_fail (by first | rfl | assumption) rfl rfl rfl rfl rfl ?_
    rintro _ _ _ _ ⟨rfl, rfl, rfl, rfl⟩
    refine hv_aload_n dX4_startSort_9 rfl ?_
    refine hv_cv0 (c_pass (tokC_of ht (off_up (fun _ _ => rfl) (show [7].contains 7 = true by decide)) rfl) h2 (fun a u q => by rcases s with e | ⟨b, w⟩ <;> cases q)) dX4_startSort_10 ml_X4_51 mk_X4_pass (by first | rfl | assumption) rfl rfl rfl rfl rfl ?_
    rintro _ _ σ1 _ ⟨rfl, rfl, rfl, a1, a2, a3⟩
    refine hv_vret dX4_startSort_13 rfl ?_
    refine ⟨rfl, rfl, rfl, off_tr (off_up (X := [7]) (fun _ _ => rfl) (by decide)) a1 (by decide) (by decide), k7_tr (fun j j1 j2 j3 => by rw [hup_eq, pk_un j3]) a2, ?_⟩
    rw [show bd s (fun a _ => srt false a) = bd (bd s (fun a _ => srt false a)) (fun a _ => pass a) by rcases s with e | ⟨b, w⟩ <;> rfl]
    exact a3
/-- behind the sort's own word -/
def hsX (K : Nat → Nat) (a : Nat) : hPR Unit := bd (tk K 23 a) (fun a1 _ => bd (intsX K 4 a1) (fun a2 _ => tk K 27 a2))
def hrX (K : Nat → Nat) (a : Nat) : hPR Unit := bd (tk K 23 a) (fun a1 _ => bd (tk K 23 a1) (fun a2 _ => tk K 27 a2))
def moX (K : Nat → Nat) (a : Nat) : hPR Unit := bd (tk K 23 a) (fun a1 _ => bd (nmsX K 401 a1) (fun a2 _ => tk K 27 a2))
theorem c_parseHouse {f : hF} {n : Nat} {s : hPR Unit} {b : Bool} (ht : tokC f n σ) (hs : pSt f n s σ) (hk : ∀ a u, s = .inr (a, u) → kd f n a ≠ 25 ∧ kd f n a ≠ 26) : hCal G (m_X4_parseHouse (hQp [7] none (rr 38 51 x y) σ τ (fun σ' => k7 σ σ' ∧ pSt f n (bd s (fun a _ => bd (srt b a) (fun a _ => hsX (kd f n) a))) σ'))) [.ref (hgA G 7), .int (bI b)] shp (rr 38 51 x y) σ τ := by
  refine hv_enter pn_X4 rfl ?_
  have loop : ∀ k i (s1 : hPR Unit) R (σ1 : hS), i + k = 4 → (∀ c, c ∉ [7] → σ1 c = σ c) → k7 σ σ1 → pSt f n s1 σ1 → bd s1 (fun a1 _ => bd (intsX (kd f n) k a1) (fun a2 _ => tk (kd f n) 27 a2)) = R → hV G (m_X4_parseHouse (hQp [7] none (rr 38 51 x y) σ τ (fun σ' => k7 σ σ' ∧ pSt f n R σ'))) 0 0 shp 13 [some (.ref (hgA G 7)), some (.int (bI b)), some (.int (nI i))] [] (rr 38 51 x y) σ1 τ := by
    intro k
    induction k with
    | zero =>
      intro i s1 R σ1 hi hσ hk7 h1 hR
      obtain rfl : i = 4 := by omega
      refine hv_iload_n dX4_parseHouse_13 rfl ?_
      refine hv_iconst (v := 4) dX4_parseHouse_14 (by decide) ?_
      refine hv_icmp_ge (tgt := 30) dX4_parseHouse_15 (by decide) (fun c_15 => ?_) (fun c_15 => absurd ((by decide)) c_15)
      refine hv_aload_n dX4_parseHouse_30 rfl ?_
      refine hv_bipush (v := 27) dX4_parseHouse_31 (by decide) ?_
      refine hv_cv1 (c_take (k := 27) (tokC_of ht hσ rfl) h1 (by decide) (by decide)) dX4_parseHouse_33 ml_X4_69 mk_X4_take (by first | rfl | assumption) rfl rfl rfl rfl rfl ?_
      rintro _ _ σ2 _ ⟨rfl, rfl, rfl, a1, a2, a3⟩
      refine hv_vret dX4_parseHouse_36 rfl ?_
      rw [← hR]; exact ⟨rfl, rfl, rfl, off_tr hσ a1 (by decide) (by decide), k7_tr hk7 a2, a3⟩
    | succ k ih =>
      intro i s1 R σ1 hi hσ hk7 h1 hR
      refine hv_iload_n dX4_parseHouse_13 rfl ?_
      refine hv_iconst (v := 4) dX4_parseHouse_14 (by decide) ?_
      refine hv_icmp_ge (tgt := 30) dX4_parseHouse_15 (by decide) (fun c_15 => absurd c_15 ((nI_ge (b := 4) (by omega) (by decide)))) (fun c_15 => ?_)
      refine hv_aload_n dX4_parseHouse_18 rfl ?_
      refine hv_bipush (v := 24) dX4_parseHouse_19 (by decide) ?_
      refine hv_cv1 (c_take (k := 24) (tokC_of ht hσ rfl) h1 (by decide) (by decide)) dX4_parseHouse_21 ml_X4_69 mk_X4_take (by first | rfl | assumption) rfl rfl rfl rfl rfl ?_
      rintro _ _ σ2 _ ⟨rfl, rfl, rfl, a1, a2, a3⟩
      refine hv_iinc dX4_parseHouse_24 rfl (nI_1 i) rfl rfl ?_
      refine hv_goto (tgt := 13) dX4_parseHouse_27 (by decide) ?_
      exact ih (i + 1) _ R σ2 (by omega) (off_tr hσ a1 (by decide) (by decide)) (k7_tr hk7 a2) a3 (by rw [← hR]; simp only [bd_assoc, intsX])
  refine hv_aload_n dX4_parseHouse_0 rfl ?_
  refine hv_iload_n dX4_parseHouse_1 rfl ?_
  refine hv_cv1 (c_startSort (b := b) ht hs hk) dX4_parseHouse_2 ml_X4_72 mk_X4_startSort (by first | rfl | assumption) rfl rfl rfl rfl rfl ?_
  rintro _ _ σ1 _ ⟨rfl, rfl, rfl, a1, a2, a3⟩
  refine hv_aload_n dX4_parseHouse_5 rfl ?_
  refine hv_bipush (v := 23) dX4_parseHouse_6 (by decide) ?_
  refine hv_cv1 (c_take (k := 23) (tokC_of ht a1 rfl) a3 (by decide) (by decide)) dX4_parseHouse_8 ml_X4_69 mk_X4_take (by first | rfl | assumption) rfl rfl rfl rfl rfl ?_
  rintro _ _ σ2 _ ⟨rfl, rfl, rfl, b1, b2, b3⟩
  refine hv_iconst (v := 0) dX4_parseHouse_11 (by decide) ?_
  refine hv_istore_n dX4_parseHouse_12 rfl rfl ?_
  exact loop 4 0 _ _ σ2 rfl (off_tr a1 b1 (by decide) (by decide)) (k7_tr a2 b2) b3 (by unfold hsX; simp only [bd_assoc])
theorem c_parseHearing {f : hF} {n : Nat} {s : hPR Unit} {b : Bool} (ht : tokC f n σ) (hs : pSt f n s σ) (hk : ∀ a u, s = .inr (a, u) → kd f n a ≠ 25 ∧ kd f n a ≠ 26) : hCal G (m_X4_parseHearing (hQp [7] none (rr 38 51 x y) σ τ (fun σ' => k7 σ σ' ∧ pSt f n (bd s (fun a _ => bd (srt b a) (fun a _ => hrX (kd f n) a))) σ'))) [.ref (hgA G 7), .int (bI b)] shp (rr 38 51 x y) σ τ := by
  refine hv_enter pn_X4 rfl ?_
  refine hv_aload_n dX4_parseHearing_0 rfl ?_
  refine hv_iload_n dX4_parseHearing_1 rfl ?_
  refine hv_cv1 (c_startSort (b := b) ht hs hk) dX4_parseHearing_2 ml_X4_72 mk_X4_startSort (by first | rfl | assumption) rfl rfl rfl rfl rfl ?_
  rintro _ _ σ1 _ ⟨rfl, rfl, rfl, a1, a2, a3⟩
  refine hv_aload_n dX4_parseHearing_5 rfl ?_
  refine hv_bipush (v := 23) dX4_parseHearing_6 (by decide) ?_
  refine hv_cv1 (c_take (k := 23) (tokC_of ht a1 rfl) a3 (by decide) (by decide)) dX4_parseHearing_8 ml_X4_69 mk_X4_take (by first | rfl | assumption) rfl rfl rfl rfl rfl ?_
  rintro _ _ σ2 _ ⟨rfl, rfl, rfl, b1, b2, b3⟩
  have o2 : ∀ c, c ∉ [7] → σ2 c = σ c := off_tr a1 b1 (by decide) (by decide)
  refine hv_aload_n dX4_parseHearing_11 rfl ?_
  refine hv_bipush (v := 23) dX4_parseHearing_12 (by decide) ?_
  refine hv_cv1 (c_take (k := 23) (tokC_of ht o2 rfl) b3 (by decide) (by decide)) dX4_parseHearing_14 ml_X4_69 mk_X4_take (by first | rfl | assumption) rfl rfl rfl rfl rfl ?_
  rintro _ _ σ3 _ ⟨rfl, rfl, rfl, d1, d2, d3⟩
  have o3 : ∀ c, c ∉ [7] → σ3 c = σ c := off_tr o2 d1 (by decide) (by decide)
  refine hv_aload_n dX4_parseHearing_17 rfl ?_
  refine hv_bipush (v := 27) dX4_parseHearing_18 (by decide) ?_
  refine hv_cv1 (c_take (k := 27) (tokC_of ht o3 rfl) d3 (by decide) (by decide)) dX4_parseHearing_20 ml_X4_69 mk_X4_take (by first | rfl | assumption) rfl rfl rfl rfl rfl ?_
  rintro _ _ σ4 _ ⟨rfl, rfl, rfl, h1, h2, h3⟩
  refine hv_vret dX4_parseHearing_23 rfl ?_
  refine ⟨rfl, rfl, rfl, off_tr o3 h1 (by decide) (by decide), k7_tr (k7_tr (k7_tr a2 b2) d2) h2, ?_⟩
  unfold hrX
  simp only [bd_assoc] at h3 ⊢
  exact h3
theorem nmsX_s (K : Nat → Nat) (k a : Nat) : nmsX K (k + 1) a = if K a = 23 then bd (pass a) (fun a _ => nmsX K k a) else .inr (a, ()) := rfl
theorem c_parseMotion {f : hF} {n : Nat} {s : hPR Unit} {b : Bool} (ht : tokC f n σ) (hs : pSt f n s σ) (hk : ∀ a u, s = .inr (a, u) → kd f n a ≠ 25 ∧ kd f n a ≠ 26) : hCal G (m_X4_parseMotion (hQp [7] none (rr 38 51 x y) σ τ (fun σ' => k7 σ σ' ∧ pSt f n (bd s (fun a _ => bd (srt b a) (fun a _ => moX (kd f n) a))) σ'))) [.ref (hgA G 7), .int (bI b)] shp (rr 38 51 x y) σ τ := by
  refine hv_enter pn_X4 rfl ?_
  have tail : ∀ (s1 : hPR Unit) R (σ1 : hS) (i : Int32), (∀ c, c ∉ [7] → σ1 c = σ c) → k7 σ σ1 → pSt f n s1 σ1 → bd s1 (fun a2 _ => tk (kd f n) 27 a2) = R → hV G (m_X4_parseMotion (hQp [7] none (rr 38 51 x y) σ τ (fun σ' => k7 σ σ' ∧ pSt f n R σ'))) 0 0 shp 46 [some (.ref (hgA G 7)), some (.int (bI b)), some (.int i)] [] (rr 38 51 x y) σ1 τ := by
    intro s1 R σ1 i hσ hk7 h1 hR
    refine hv_aload_n dX4_parseMotion_46 rfl ?_
    refine hv_bipush (v := 27) dX4_parseMotion_47 (by decide) ?_
    refine hv_cv1 (c_take (k := 27) (tokC_of ht hσ rfl) h1 (by decide) (by decide)) dX4_parseMotion_49 ml_X4_69 mk_X4_take (by first | rfl | assumption) rfl rfl rfl rfl rfl ?_
    rintro _ _ σ2 _ ⟨rfl, rfl, rfl, a1, a2, a3⟩
    refine hv_vret dX4_parseMotion_52 rfl ?_
    rw [← hR]; exact ⟨rfl, rfl, rfl, off_tr hσ a1 (by decide) (by decide), k7_tr hk7 a2, a3⟩
  have loop : ∀ k i (s1 : hPR Unit) R (σ1 : hS), i + k = 401 → (∀ c, c ∉ [7] → σ1 c = σ c) → k7 σ σ1 → pSt f n s1 σ1 → bd s1 (fun a1 _ => bd (nmsX (kd f n) k a1) (fun a2 _ => tk (kd f n) 27 a2)) = R → hV G (m_X4_parseMotion (hQp [7] none (rr 38 51 x y) σ τ (fun σ' => k7 σ σ' ∧ pSt f n R σ'))) 0 0 shp 13 [some (.ref (hgA G 7)), some (.int (bI b)), some (.int (nI i))] [] (rr 38 51 x y) σ1 τ := by
    intro k
    induction k with
    | zero =>
      intro i s1 R σ1 hi hσ hk7 h1 hR
      obtain rfl : i = 401 := by omega
      refine hv_iload_n dX4_parseMotion_13 rfl ?_
      refine hv_sipush (v := 400) dX4_parseMotion_14 (by decide) ?_
      refine hv_icmp_gt (tgt := 46) dX4_parseMotion_17 (by decide) (fun c_17 => ?_) (fun c_17 => absurd ((by decide)) c_17)
      exact tail s1 R σ1 _ hσ hk7 h1 (by rw [← hR]; rcases s1 with e | ⟨a, u⟩ <;> rfl)
    | succ k ih =>
      intro i s1 R σ1 hi hσ hk7 h1 hR
      rcases s1 with ⟨v, t⟩ | ⟨a, u⟩
      · have hne : ¬ σ1 7 7 = 0 := by rw [h1.1]; exact nI_ne0 (by have := h1.2.1; omega) (by have := h1.2.1; omega)
        refine hv_iload_n dX4_parseMotion_13 rfl ?_
        refine hv_sipush (v := 400) dX4_parseMotion_14 (by decide) ?_
        refine hv_icmp_gt (tgt := 46) dX4_parseMotion_17 (by decide) (fun c_17 => absurd c_17 ((nI_nlt (a := 400) (by omega) (by decide)))) (fun c_17 => ?_)
        refine hv_aload_n dX4_parseMotion_20 rfl ?_
        refine hv_geti dX4_parseMotion_21 fl_X4_41 (by first | rfl | assumption) rfl ?_
        refine hv_if_ne (tgt := 46) dX4_parseMotion_24 (by decide) (fun c_24 => ?_) (fun c_24 => absurd c_24 (hne))
        exact tail (.inl (v, t)) R σ1 _ hσ hk7 h1 hR
      · have hkl := kd_le f n a
        rw [bd_inr, nmsX_s] at hR
        by_cases c : kd f n a = 23
        · rw [if_pos c] at hR
          refine hv_iload_n dX4_parseMotion_13 rfl ?_
          refine hv_sipush (v := 400) dX4_parseMotion_14 (by decide) ?_
          refine hv_icmp_gt (tgt := 46) dX4_parseMotion_17 (by decide) (fun c_17 => absurd c_17 ((nI_nlt (a := 400) (by omega) (by decide)))) (fun c_17 => ?_)
          refine hv_aload_n dX4_parseMotion_20 rfl ?_
          refine hv_geti dX4_parseMotion_21 fl_X4_41 (by first | rfl | assumption) rfl ?_
          refine hv_if_ne (tgt := 46) dX4_parseMotion_24 (by decide) (fun c_24 => absurd (h1.1) c_24) (fun c_24 => ?_)
          refine hv_aload_n dX4_parseMotion_27 rfl ?_
          refine hv_geti dX4_parseMotion_28 fl_X4_29 (by first | rfl | assumption) rfl ?_
          refine hv_bipush (v := 23) dX4_parseMotion_31 (by decide) ?_
          rw [h1.2.2.1, c]
          refine hv_icmp_ne (tgt := 46) dX4_parseMotion_33 (by decide) (fun c_33 => absurd (rfl) c_33) (fun c_33 => ?_)
          refine hv_aload_n dX4_parseMotion_36 rfl ?_
          refine hv_cv0 (c_pass (tokC_of ht hσ rfl) h1 (fun b w q => by cases q; rw [c]; decide)) dX4_parseMotion_37 ml_X4_51 mk_X4_pass (by first | rfl | assumption) rfl rfl rfl rfl rfl ?_
          rintro _ _ σ2 _ ⟨rfl, rfl, rfl, a1, a2, a3⟩
          refine hv_iinc dX4_parseMotion_40 rfl (nI_1 i) rfl rfl ?_
          refine hv_goto (tgt := 13) dX4_parseMotion_43 (by decide) ?_
          exact ih (i + 1) _ R σ2 (by omega) (off_tr hσ a1 (by decide) (by decide)) (k7_tr hk7 a2) a3 (by rw [← hR]; simp only [bd_assoc, bd_inr])
        · rw [if_neg c] at hR
          refine hv_iload_n dX4_parseMotion_13 rfl ?_
          refine hv_sipush (v := 400) dX4_parseMotion_14 (by decide) ?_
          refine hv_icmp_gt (tgt := 46) dX4_parseMotion_17 (by decide) (fun c_17 => absurd c_17 ((nI_nlt (a := 400) (by omega) (by decide)))) (fun c_17 => ?_)
          refine hv_aload_n dX4_parseMotion_20 rfl ?_
          refine hv_geti dX4_parseMotion_21 fl_X4_41 (by first | rfl | assumption) rfl ?_
          refine hv_if_ne (tgt := 46) dX4_parseMotion_24 (by decide) (fun c_24 => absurd (h1.1) c_24) (fun c_24 => ?_)
          refine hv_aload_n dX4_parseMotion_27 rfl ?_
          refine hv_geti dX4_parseMotion_28 fl_X4_29 (by first | rfl | assumption) rfl ?_
          refine hv_bipush (v := 23) dX4_parseMotion_31 (by decide) ?_
          rw [h1.2.2.1]
          refine hv_icmp_ne (tgt := 46) dX4_parseMotion_33 (by decide) (fun c_33 => ?_) (fun c_33 => absurd c_33 ((fun q => c ((nI_eq (b := 23) (by omega) (by decide)).mp q))))
          exact tail (.inr (a, u)) R σ1 _ hσ hk7 h1 hR
  refine hv_aload_n dX4_parseMotion_0 rfl ?_
  refine hv_iload_n dX4_parseMotion_1 rfl ?_
  refine hv_cv1 (c_startSort (b := b) ht hs hk) dX4_parseMotion_2 ml_X4_72 mk_X4_startSort (by first | rfl | assumption) rfl rfl rfl rfl rfl ?_
  rintro _ _ σ1 _ ⟨rfl, rfl, rfl, a1, a2, a3⟩
  refine hv_aload_n dX4_parseMotion_5 rfl ?_
  refine hv_bipush (v := 23) dX4_parseMotion_6 (by decide) ?_
  refine hv_cv1 (c_take (k := 23) (tokC_of ht a1 rfl) a3 (by decide) (by decide)) dX4_parseMotion_8 ml_X4_69 mk_X4_take (by first | rfl | assumption) rfl rfl rfl rfl rfl ?_
  rintro _ _ σ2 _ ⟨rfl, rfl, rfl, b1, b2, b3⟩
  refine hv_iconst (v := 0) dX4_parseMotion_11 (by decide) ?_
  refine hv_istore_n dX4_parseMotion_12 rfl rfl ?_
  exact loop 401 0 _ _ σ2 rfl (off_tr a1 b1 (by decide) (by decide)) (k7_tr a2 b2) b3 (by unfold moX; simp only [bd_assoc])
end S79

