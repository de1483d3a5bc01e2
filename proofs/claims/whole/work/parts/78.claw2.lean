abbrev m_X4_parseHouse (Q : hPo) : hMe := (hrm 3, 0, 0, yX4_parseHouse, cX4_parseHouse, 2, (none : Option FieldType), shp, none, Q)
abbrev m_X4_parseHearing (Q : hPo) : hMe := (hrm 3, 0, 0, yX4_parseHearing, cX4_parseHearing, 1, (none : Option FieldType), shp, none, Q)
abbrev m_X4_parseMotion (Q : hPo) : hMe := (hrm 3, 0, 0, yX4_parseMotion, cX4_parseMotion, 2, (none : Option FieldType), shp, none, Q)
abbrev m_X4_parseNumber (Q : hPo) : hMe := (hrm 2, 0, 0, yX4_parseNumber, cX4_parseNumber, 1, (none : Option FieldType), shp, none, Q)
abbrev m_X4_parse (Q : hPo) : hMe := (hrm 32, 0, 0, yX4_parse, cX4_parse, 3, (none : Option FieldType), shp, none, Q)
theorem ey_mono {f : hF} {n sl sl' sz : Nat} {r : hPR hCd} {σ σ1 : hS} (h : pEy f n sl sz r σ σ1) (hl : sl' ≤ sl) : pEy f n sl' sz r σ σ1 := by
  rcases r with e | ⟨a, c⟩
  · exact h
  · exact ⟨h.1, h.2.1, by have := h.2.2; omega⟩
theorem ey_keep {f : hF} {n sl sz : Nat} {r : hPR hCd} {σ σ1 σ2 : hS} (h : pEy f n sl sz r σ σ1) (h7 : σ2 7 = σ1 7) (h8 : σ2 58 = σ1 58) (h9 : σ2 59 = σ1 59) (h0 : σ2 60 = σ1 60) : pEy f n sl sz r σ σ2 := by
  rcases r with e | ⟨a, c⟩
  · exact ⟨pSt_of h.1 h7, pLg_of h.2 h8⟩
  · exact ⟨pSt_of h.1 h7, pLw_of h.2.1 h8 h9 h0, h.2.2⟩
theorem ifsX_s (K V : Nat → Nat) (k s : Nat) (bs : List hBr) : ifsX K V (k + 1) s bs = if K s = 11 then bd (ifX K V s) (fun a b => ifsX K V k a (bs ++ [b])) else .inr (s, bs) := rfl
theorem ifsX_0 (K V : Nat → Nat) (s : Nat) (bs : List hBr) : ifsX K V 0 s bs = if K s = 11 then .inl (2, s) else .inr (s, bs) := rfl
theorem stR_bd {α β : Type} (r : hPR α) (g : α → β) : stR (bd r (fun a c => (Sum.inr (a, g c) : hPR β))) = stR r := by
  rcases r with e | ⟨a, c⟩ <;> rfl
theorem pSt_stR {f : hF} {n : Nat} {s : hPR Unit} {σ : hS} (h : pSt f n s σ) : pSt f n (stR s) σ := by
  rcases s with e | ⟨a, u⟩
  · exact h
  · exact h
section S78
variable {G : hGl} {σ : hS} {τ : hT} {x y : Option Nat}
abbrev xLa : List Nat := [7, 58, 59, 60, 61]
set_option maxRecDepth 100000 in
theorem c_parseLaw {f : hF} {n sz k : Nat} {s : hPR Unit} (ht : tokC f n σ) (hs : pSt f n s σ) (hz : szOk sz s σ) (hk5 : k < 5) (hk : ∀ a u, s = .inr (a, u) → kd f n a ≠ 25 ∧ kd f n a ≠ 26) : hCal G (m_X4_parseLaw (hQp xLa none (rr 38 51 (some 58) y) σ τ (fun σ' => k7 σ σ' ∧ pEy f n 0 sz (bd s (fun a _ => bd (pass a) (fun a1 _ => bd (lawX (kd f n) (vl f n) a1) (fun a' l => .inr (a', encL sz l))))) σ σ' ∧ ∀ a c, bd s (fun a _ => bd (pass a) (fun a1 _ => lawX (kd f n) (vl f n) a1)) = .inr (a, c) → σ' 61 = upd (σ 61) k (nI sz)))) [.ref (hgA G 7), .int (nI k)] shp (rr 38 51 (some 58) y) σ τ := by
  have e0 := ey_of hs hz
  refine hv_enter pn_X4 rfl ?_
  have tail : ∀ (r : hPR (List hBr)) (σ1 : hS) (i : Int32) (S61 : hF) (l3 : Option Value), (∀ c, c ∉ xLa → σ1 c = σ c) → k7 σ σ1 → pEy f n 0 sz (bd r (fun a bs => .inr (a, encBs sz bs))) σ σ1 → σ1 61 = S61 → ∀ R : hPR hLw, bd r (fun a1 bs => bd (eX (kd f n) (vl f n) a1) (fun a2 c => bd (tk (kd f n) 27 a2) (fun a3 _ => .inr (a3, (bs, c))))) = R → (∀ a c, R = .inr (a, c) → S61 = upd (σ 61) k (nI sz)) → hV G (m_X4_parseLaw (hQp xLa none (rr 38 51 (some 58) y) σ τ (fun σ' => k7 σ σ' ∧ pEy f n 0 sz (bd R (fun a' l => .inr (a', encL sz l))) σ σ' ∧ ∀ a c, R = .inr (a, c) → σ' 61 = upd (σ 61) k (nI sz)))) 0 0 shp 120 [some (.ref (hgA G 7)), some (.int (nI k)), some (.int i), l3] [] (rr 38 51 (some 58) y) σ1 τ := by
    intro r σ1 i S61 l3 hσ hk7 e1 h61 R hR h61R
    have t1 := tokC_of ht hσ rfl
    obtain ⟨z1, s1, g1⟩ := ey_sz e1
    refine hv_aload_n dX4_parseLaw_120 rfl ?_
    refine hv_iconst (v := 0) dX4_parseLaw_121 (by decide) ?_
    refine hv_cv1 (c_parseSum_0 t1 e1.1 s1) dX4_parseLaw_122 ml_X4_77 mk_X4_parseSum (by first | rfl | assumption) rfl rfl rfl rfl rfl ?_
    rintro _ _ σ2 _ ⟨rfl, rfl, rfl, b1, b2, b3⟩
    have e2 := ey_exp e1 g1 b3
    have t2 := tokC_of t1 b1 rfl
    refine hv_aload_n dX4_parseLaw_125 rfl ?_
    refine hv_bipush (v := 27) dX4_parseLaw_126 (by decide) ?_
    refine hv_cv1 (c_take (k := 27) t2 e2.1 (by decide) (by decide)) dX4_parseLaw_128 ml_X4_63 mk_X4_take (by first | rfl | assumption) rfl rfl rfl rfl rfl ?_
    rintro _ _ σ3 _ ⟨rfl, rfl, rfl, d1, d2, d3⟩
    have e3 := ey_tk (t := tk (kd f n) 27) (fun a b u q => (tk_r q).2.2) e2 d1 d3
    obtain ⟨z3, s3, g3⟩ := ey_sz e3
    refine hv_aload_n dX4_parseLaw_131 rfl ?_
    refine hv_getr dX4_parseLaw_132 fl_X4_15 (by first | rfl | assumption) rfl (by first | rfl | assumption) ?_
    refine hv_bipush (v := 7) dX4_parseLaw_135 (by decide) ?_
    refine hv_iconst (v := 0) dX4_parseLaw_137 (by decide) ?_
    refine hv_cv2 (c_lput s3.1 s3.2.1) dX4_parseLaw_138 ml_X4_80 mk_X1_put (by first | rfl | assumption) rfl rfl rfl rfl rfl ?_
    rintro _ _ σ4 _ ⟨rfl, rfl, rfl, j1, j2⟩
    have e4 := ey_put e3 s3 g3 j1 j2
    refine hv_pop dX4_parseLaw_141 rfl ?_
    refine hv_vret dX4_parseLaw_142 rfl ?_
    refine ⟨rfl, rfl, rfl, off_tr (off_tr (off_tr hσ b1 (Z := xLa) (by decide) (by decide)) d1 (Z := xLa) (by decide) (by decide)) j1 (by decide) (by decide), k7_tr (k7_tr (k7_tr hk7 b2) d2) (fun j _ _ _ => by rw [j1 7 (by decide)]), ?_, fun a c q => ?_⟩
    · have hrw : bd R (fun a' l => (Sum.inr (a', encL sz l) : hPR hCd)) = (bd (bd (bd (bd r fun a bs => Sum.inr (a, encBs sz bs)) fun a c => bd (eX (kd f n) (vl f n) a) fun a' c' => Sum.inr (a', c ++ c')) fun a c => bd (tk (kd f n) 27 a) fun a' x => Sum.inr (a', c)) fun a c => Sum.inr (a, c ++ [(7, 0)])) := by
        rw [← hR]
        simp only [bd_assoc, bd_inr]
        rfl
      rw [hrw]
      exact e4
    · rw [j1 61 (by decide), d1 61 (by decide), b1 61 (by decide), h61]
      exact h61R a c q
  have loop : ∀ m i (r : hPR (List hBr)) (σ1 : hS) (S61 : hF) (l3 : Option Value), (l3 = none ∨ ∃ z, l3 = some (.int z)) → i + m = 5 → (m = 0 → ∃ e, r = .inl e) → (∀ c, c ∉ xLa → σ1 c = σ c) → k7 σ σ1 → pEy f n 0 sz (bd r (fun a bs => .inr (a, encBs sz bs))) σ σ1 → σ1 61 = S61 → ∀ R : hPR hLw, bd r (fun a1 bs => bd (ifsX (kd f n) (vl f n) (m - 1) a1 bs) (fun a1 bs => bd (eX (kd f n) (vl f n) a1) (fun a2 c => bd (tk (kd f n) 27 a2) (fun a3 _ => .inr (a3, (bs, c)))))) = R → (∀ a c, R = .inr (a, c) → S61 = upd (σ 61) k (nI sz)) → hV G (m_X4_parseLaw (hQp xLa none (rr 38 51 (some 58) y) σ τ (fun σ' => k7 σ σ' ∧ pEy f n 0 sz (bd R (fun a' l => .inr (a', encL sz l))) σ σ' ∧ ∀ a c, R = .inr (a, c) → σ' 61 = upd (σ 61) k (nI sz)))) 0 0 shp 24 [some (.ref (hgA G 7)), some (.int (nI k)), some (.int (nI i)), l3] [] (rr 38 51 (some 58) y) σ1 τ := by
    intro m
    induction m with
    | zero =>
      intro i r σ1 S61 l3 hl3 hi h0 hσ hk7 e1 h61 R hR h61R
      obtain rfl : i = 5 := by omega
      obtain ⟨e, rfl⟩ := h0 rfl
      refine hv_iload_n dX4_parseLaw_24 rfl ?_
      refine hv_iconst (v := 4) dX4_parseLaw_25 (by decide) ?_
      refine hv_icmp_gt (tgt := 120) dX4_parseLaw_26 (by decide) (fun c_26 => ?_) (fun c_26 => absurd ((by decide)) c_26)
      exact tail (.inl e) σ1 _ S61 l3 hσ hk7 e1 h61 R hR h61R
    | succ m ih =>
      intro i r σ1 S61 l3 hl3 hi h0 hσ hk7 e1 h61 R hR h61R
      rw [Nat.add_sub_cancel] at hR
      have t1 := tokC_of ht hσ rfl
      rcases r with ⟨v, t⟩ | ⟨a, bs⟩
      · have h1 := e1.1
        have hne : ¬ σ1 7 7 = 0 := by rw [h1.1]; exact nI_ne0 (by have := h1.2.1; omega) (by have := h1.2.1; omega)
        refine hv_iload_n dX4_parseLaw_24 rfl ?_
        refine hv_iconst (v := 4) dX4_parseLaw_25 (by decide) ?_
        refine hv_icmp_gt (tgt := 120) dX4_parseLaw_26 (by decide) (fun c_26 => absurd c_26 ((nI_nlt (a := 4) (by omega) (by decide)))) (fun c_26 => ?_)
        refine hv_aload_n dX4_parseLaw_29 rfl ?_
        refine hv_geti dX4_parseLaw_30 fl_X4_41 (by first | rfl | assumption) rfl ?_
        refine hv_if_ne (tgt := 120) dX4_parseLaw_33 (by decide) (fun c_33 => ?_) (fun c_33 => absurd c_33 (hne))
        exact tail (.inl (v, t)) σ1 _ S61 l3 hσ hk7 e1 h61 R hR h61R
      · have h1 : pSt f n (.inr (a, ())) σ1 := e1.1
        have hkl := kd_le f n a
        have ha := h1.2.2.2.1
        have hlw := e1.2.1
        have hll := e1.2.2
        rw [bd_inr] at hR
        by_cases c11 : kd f n a = 11
        · cases m with
          | zero =>
            obtain rfl : i = 4 := by omega
            rw [ifsX_0, if_pos c11] at hR
            refine hv_iload_n dX4_parseLaw_24 rfl ?_
            refine hv_iconst (v := 4) dX4_parseLaw_25 (by decide) ?_
            refine hv_icmp_gt (tgt := 120) dX4_parseLaw_26 (by decide) (fun c_26 => absurd c_26 ((by decide))) (fun c_26 => ?_)
            refine hv_aload_n dX4_parseLaw_29 rfl ?_
            refine hv_geti dX4_parseLaw_30 fl_X4_41 (by first | rfl | assumption) rfl ?_
            refine hv_if_ne (tgt := 120) dX4_parseLaw_33 (by decide) (fun c_33 => absurd (h1.1) c_33) (fun c_33 => ?_)
            refine hv_aload_n dX4_parseLaw_36 rfl ?_
            refine hv_geti dX4_parseLaw_37 fl_X4_29 (by first | rfl | assumption) rfl ?_
            refine hv_bipush (v := 11) dX4_parseLaw_40 (by decide) ?_
            rw [h1.2.2.1, c11]
            refine hv_icmp_ne (tgt := 120) dX4_parseLaw_42 (by decide) (fun c_42 => absurd (rfl) c_42) (fun c_42 => ?_)
            refine hv_aload_n dX4_parseLaw_45 rfl ?_
            refine hv_iload_n dX4_parseLaw_46 rfl ?_
            refine hv_iconst (v := 4) dX4_parseLaw_47 (by decide) ?_
            refine hv_cv2 (c_takeSort (told := 4) (most := 4) t1 h1 (fun b u q => by cases q; rw [c11]; decide) (by decide) (by decide)) dX4_parseLaw_48 ml_X4_66 mk_X4_takeSort (by first | rfl | assumption) rfl rfl rfl rfl rfl ?_
            rintro _ _ σ2 _ ⟨rfl, rfl, rfl, u1, u2, u3⟩
            have u4 : pSt f n (.inl (2, a)) σ2 := u3
            refine v_if (σ := σ1) (f := f) (n := n) (s := .inl (2, a)) (sz := sz + (encBs sz bs).length) hl3 (tokC_of t1 u1 rfl) ⟨u4, fun j hj => by rw [u1 58 (by decide)], sz + (encBs sz bs).length, by omega, by rw [u1 58 (by decide)]; exact hlw.2.1⟩ (fun σ3 z d1 d2 d3 => ?_)
            refine hv_iinc dX4_parseLaw_114 rfl (nI_1 4) rfl rfl ?_
            refine hv_goto (tgt := 24) dX4_parseLaw_117 (by decide) ?_
            exact ih 5 (.inl (2, a)) σ3 S61 _ (Or.inr ⟨_, rfl⟩) rfl (fun _ => ⟨_, rfl⟩) (off_tr (off_tr hσ u1 (Z := xLa) (by decide) (by decide)) d1 (by decide) (by decide)) (k7_tr hk7 (k7_tr u2 d2)) ⟨d3.1, pLg_tr hlw.1 d3.2⟩ (by rw [d1 61 (by decide), u1 61 (by decide)]; exact h61) R hR h61R
          | succ m =>
            rw [ifsX_s, if_pos c11] at hR
            have z2 : szOk (sz + (encBs sz bs).length) (.inr (a, ())) σ1 := ⟨hlw.2.1, by omega, fun b u q => by cases q; omega⟩
            refine hv_iload_n dX4_parseLaw_24 rfl ?_
            refine hv_iconst (v := 4) dX4_parseLaw_25 (by decide) ?_
            refine hv_icmp_gt (tgt := 120) dX4_parseLaw_26 (by decide) (fun c_26 => absurd c_26 ((nI_nlt (a := 4) (by omega) (by decide)))) (fun c_26 => ?_)
            refine hv_aload_n dX4_parseLaw_29 rfl ?_
            refine hv_geti dX4_parseLaw_30 fl_X4_41 (by first | rfl | assumption) rfl ?_
            refine hv_if_ne (tgt := 120) dX4_parseLaw_33 (by decide) (fun c_33 => absurd (h1.1) c_33) (fun c_33 => ?_)
            refine hv_aload_n dX4_parseLaw_36 rfl ?_
            refine hv_geti dX4_parseLaw_37 fl_X4_29 (by first | rfl | assumption) rfl ?_
            refine hv_bipush (v := 11) dX4_parseLaw_40 (by decide) ?_
            rw [h1.2.2.1, c11]
            refine hv_icmp_ne (tgt := 120) dX4_parseLaw_42 (by decide) (fun c_42 => absurd (rfl) c_42) (fun c_42 => ?_)
            refine hv_aload_n dX4_parseLaw_45 rfl ?_
            refine hv_iload_n dX4_parseLaw_46 rfl ?_
            refine hv_iconst (v := 4) dX4_parseLaw_47 (by decide) ?_
            refine hv_cv2 (c_takeSort (told := i) (most := 4) t1 h1 (fun b u q => by cases q; rw [c11]; decide) (by omega) (by decide)) dX4_parseLaw_48 ml_X4_66 mk_X4_takeSort (by first | rfl | assumption) rfl rfl rfl rfl rfl ?_
            rintro _ _ σ2 _ ⟨rfl, rfl, rfl, u1, u2, u3⟩
            rw [decide_eq_true (show i < 4 by omega)] at u3
            have u4 : pSt f n (pass a) σ2 := u3
            refine v_if (σ := σ1) (f := f) (n := n) (s := .inr (a, ())) (sz := sz + (encBs sz bs).length) hl3 (tokC_of t1 u1 rfl) (ey_tk (t := pass) (fun a b u q => (pass_r q).2) (ey_of h1 z2) u1 (by rw [stR_st]; exact u4)) (fun σ3 z d1 d2 d3 => ?_)
            refine hv_iinc dX4_parseLaw_114 rfl (nI_1 i) rfl rfl ?_
            refine hv_goto (tgt := 24) dX4_parseLaw_117 (by decide) ?_
            refine ih (i + 1) (bd (ifX (kd f n) (vl f n) a) (fun a b => .inr (a, bs ++ [b]))) σ3 S61 _ (Or.inr ⟨_, rfl⟩) (by omega) (fun q => absurd q (by omega)) (off_tr (off_tr hσ u1 (Z := xLa) (by decide) (by decide)) d1 (by decide) (by decide)) (k7_tr hk7 (k7_tr u2 d2)) ?_ (by rw [d1 61 (by decide), u1 61 (by decide)]; exact h61) R (by rw [← hR]; simp only [bd_assoc, bd_inr, Nat.add_sub_cancel]) h61R
            have d4 : pEy f n 0 (sz + (encBs sz bs).length) (bd (ifX (kd f n) (vl f n) a) (fun a' b => .inr (a', encB (sz + (encBs sz bs).length) b))) σ1 σ3 := d3
            rcases hr : ifX (kd f n) (vl f n) a with e | ⟨b, d⟩
            · rw [hr] at d4
              exact ⟨d4.1, pLg_tr hlw.1 d4.2⟩
            · rw [hr] at d4
              refine ⟨d4.1, ?_, ?_⟩
              · show pLw sz (encBs sz (bs ++ [d])) σ σ3
                rw [encBs_app]
                exact pLw_tr hlw d4.2.1
              · show sz + (encBs sz (bs ++ [d])).length + 0 ≤ 10 + b
                rw [encBs_app, List.length_append]
                have := d4.2.2
                omega
        · have hR2 : bd (Sum.inr (a, bs) : hPR (List hBr)) (fun a1 bs => bd (eX (kd f n) (vl f n) a1) (fun a2 c => bd (tk (kd f n) 27 a2) (fun a3 _ => .inr (a3, (bs, c))))) = R := by
            cases m with
            | zero => rw [ifsX_0, if_neg c11] at hR; exact hR
            | succ m => rw [ifsX_s, if_neg c11] at hR; exact hR
          refine hv_iload_n dX4_parseLaw_24 rfl ?_
          refine hv_iconst (v := 4) dX4_parseLaw_25 (by decide) ?_
          refine hv_icmp_gt (tgt := 120) dX4_parseLaw_26 (by decide) (fun c_26 => absurd c_26 ((nI_nlt (a := 4) (by omega) (by decide)))) (fun c_26 => ?_)
          refine hv_aload_n dX4_parseLaw_29 rfl ?_
          refine hv_geti dX4_parseLaw_30 fl_X4_41 (by first | rfl | assumption) rfl ?_
          refine hv_if_ne (tgt := 120) dX4_parseLaw_33 (by decide) (fun c_33 => absurd (h1.1) c_33) (fun c_33 => ?_)
          refine hv_aload_n dX4_parseLaw_36 rfl ?_
          refine hv_geti dX4_parseLaw_37 fl_X4_29 (by first | rfl | assumption) rfl ?_
          refine hv_bipush (v := 11) dX4_parseLaw_40 (by decide) ?_
          rw [h1.2.2.1]
          refine hv_icmp_ne (tgt := 120) dX4_parseLaw_42 (by decide) (fun c_42 => ?_) (fun c_42 => absurd c_42 ((fun q => c11 ((nI_eq (b := 11) (by omega) (by decide)).mp q))))
          exact tail (.inr (a, bs)) σ1 _ S61 l3 hσ hk7 e1 h61 R hR2 h61R
  obtain ⟨R, hR⟩ : ∃ R, bd s (fun a _ => bd (pass a) (fun a1 _ => lawX (kd f n) (vl f n) a1)) = R := ⟨_, rfl⟩
  rw [show bd s (fun a _ => bd (pass a) (fun a1 _ => bd (lawX (kd f n) (vl f n) a1) (fun a' l => (Sum.inr (a', encL sz l) : hPR hCd)))) = bd R (fun a' l => .inr (a', encL sz l)) by rw [← hR]; simp only [bd_assoc], hR]
  refine hv_aload_n dX4_parseLaw_0 rfl ?_
  refine hv_aload_n dX4_parseLaw_1 rfl ?_
  refine hv_geti dX4_parseLaw_2 fl_X4_29 (by first | rfl | assumption) rfl ?_
  refine hv_cv1 (c_pass ht hs hk) dX4_parseLaw_5 ml_X4_63 mk_X4_take (by first | rfl | assumption) rfl rfl rfl rfl rfl ?_
  rintro _ _ σ1 _ ⟨rfl, rfl, rfl, a1, a2, a3⟩
  have e1 := ey_tk (t := pass) (fun a b u q => (pass_r q).2) e0 a1 (by rw [stR_st]; exact a3)
  have t1 := tokC_of ht a1 rfl
  refine hv_aload_n dX4_parseLaw_8 rfl ?_
  refine hv_bipush (v := 28) dX4_parseLaw_9 (by decide) ?_
  refine hv_cv1 (c_take (k := 28) t1 e1.1 (by decide) (by decide)) dX4_parseLaw_11 ml_X4_63 mk_X4_take (by first | rfl | assumption) rfl rfl rfl rfl rfl ?_
  rintro _ _ σ2 _ ⟨rfl, rfl, rfl, d1, d2, d3⟩
  have e2 := ey_tk (t := tk (kd f n) 28) (fun a b u q => (tk_r q).2.2) e1 d1 d3
  obtain ⟨z2, s2, g2⟩ := ey_sz e2
  refine hv_aload_n dX4_parseLaw_14 rfl ?_
  refine hv_getr dX4_parseLaw_15 fl_X4_15 (by first | rfl | assumption) rfl (by first | rfl | assumption) ?_
  refine hv_iload_n dX4_parseLaw_18 rfl ?_
  refine hv_cv1 (c_startHere s2.1 hk5) dX4_parseLaw_19 ml_X4_72 mk_X1_startHere (by first | rfl | assumption) rfl rfl rfl rfl rfl ?_
  rintro _ _ σ3 _ ⟨rfl, rfl, rfl, j1, j2⟩
  refine hv_iconst (v := 0) dX4_parseLaw_22 (by decide) ?_
  refine hv_istore_n dX4_parseLaw_23 rfl rfl ?_
  refine loop 5 0 (bd s (fun a _ => bd (pass a) (fun a1 _ => bd (tk (kd f n) 28 a1) (fun a2 _ => .inr (a2, []))))) σ3 (upd (σ 61) k (nI z2)) none (Or.inl rfl) rfl (fun q => absurd q (by decide)) (off_tr (off_tr a1 d1 (Z := xLa) (by decide) (by decide)) j1 (by decide) (by decide)) (k7_tr (k7_tr a2 d2) (fun j _ _ _ => by rw [j1 7 (by decide)])) ?_ (by rw [j2, d1 61 (by decide), a1 61 (by decide)]) R ?_ ?_
  · have hrw : bd (bd s (fun a _ => bd (pass a) (fun a1 _ => bd (tk (kd f n) 28 a1) (fun a2 _ => (Sum.inr (a2, []) : hPR (List hBr)))))) (fun a bs => (Sum.inr (a, encBs sz bs) : hPR hCd)) = (bd (bd (bd s fun a x => Sum.inr (a, [])) fun a c => bd (pass a) fun a' x => Sum.inr (a', c)) fun a c => bd (tk (kd f n) 28 a) fun a' x => Sum.inr (a', c)) := by
      simp only [bd_assoc, bd_inr]
      rfl
    rw [hrw]
    exact ey_keep (ey_mono e2 (Nat.zero_le _)) (j1 7 (by decide)) (j1 58 (by decide)) (j1 59 (by decide)) (j1 60 (by decide))
  · rw [← hR]
    unfold lawX
    simp only [bd_assoc, bd_inr]
  · intro a c q
    rw [← hR] at q
    obtain ⟨w0, u0, q0, q⟩ := bd_iff.mp q
    obtain ⟨w1, u1, q1, q⟩ := bd_iff.mp q
    unfold lawX at q
    obtain ⟨w2, u2, q2, q⟩ := bd_iff.mp q
    rw [g2 w2 [] (by simp only [q0, q1, q2, bd_inr]), List.length_nil, Nat.add_zero]
end S78

