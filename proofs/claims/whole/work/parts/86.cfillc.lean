section S86
variable {G : hGl} {σ : hS} {τ : hT} {x y : Option Nat}
theorem clsS_of {f : hF} {n : Nat} {S : hSm} {σ σ' : hS} (h : clsS f n S σ) (hσ : ∀ c, c ∉ [8] → σ' c = σ c) : clsS f n S σ' := by
  unfold clsS nmC
  rw [hσ 51 (by decide), hσ 9 (by decide), hσ 10 (by decide), hσ 52 (by decide), hσ 53 (by decide), hσ 54 (by decide), hσ 55 (by decide), hσ 56 (by decide), hσ 57 (by decide)]
  exact h
theorem c_fillNumber {f : hF} {n s e : Nat} {S : hSm} {l : Option (Nat × hLw)} (ht : tlC f n σ) (hc : clsS f n S σ) (h4 : σ 8 4 = nI s) (hs : tSt none σ) (hr : rel f n s) (he : e ≤ 400) (htl : tlP (kd f n) s e l) (k0 : ¬ kd f n s = 0) (k1 : ¬ kd f n s = 1) (k2 : ¬ kd f n s = 2) : hCal G (m_X8_fillNumber (hQp xTl none (rr 38 51 x (some 51)) σ τ (fun σ' => k8 σ σ' ∧ pSm f n (smTell (kd f n) (vl f n) (dg f n) S s e) σ'))) [.ref (hgA G 8), .int (nI (kd f n s))] shp (rr 38 51 x (some 51)) σ τ := by
  obtain ⟨t1, t2, t3, t4, t5, t6, t7, t8, t9⟩ := htl
  have hrj : ∀ j, s ≤ j → j ≤ e → rel f n j := fun j j1 j2 => rel_up hr he t2 j2 j1
  have hcc := hc
  obtain ⟨⟨n1, n2, n3, n4, n5, n6⟩, c2, c3, c4, c5, c6, c7, c8⟩ := hc
  by_cases k8 : kd f n s = 8
  · obtain ⟨p1, p2⟩ := t6 (by omega)
    rw [show smTell (kd f n) (vl f n) (dg f n) S s e = (if 999 < vl f n (s + 1) then .inl (5, s + 1) else .inr (S.1, S.2.1, S.2.2.1, S.2.2.2.1, (vl f n (s + 1), sOd S, sSe S))) by unfold smTell; rw [if_neg k0, if_neg k1, if_neg k2, if_pos k8]]
    rw [k8]
    refine hv_enter pn_X8 rfl ?_
    refine hv_iload_n dX8_fillNumber_0 rfl ?_
    refine hv_bipush (v := 8) dX8_fillNumber_1 (by decide) ?_
    refine hv_icmp_ne (tgt := 29) dX8_fillNumber_3 (by decide) (fun c_3 => absurd (rfl) c_3) (fun c_3 => ?_)
    refine hv_aload_n dX8_fillNumber_6 rfl ?_
    refine hv_getr dX8_fillNumber_7 fl_X8_22 (by first | rfl | assumption) rfl (by first | rfl | assumption) ?_
    refine hv_aload_n dX8_fillNumber_10 rfl ?_
    refine hv_aload_n dX8_fillNumber_11 rfl ?_
    refine hv_geti dX8_fillNumber_12 fl_X8_26 (by first | rfl | assumption) rfl ?_
    refine hv_iconst (v := 1) dX8_fillNumber_15 (by decide) ?_
    refine hv_iadd dX8_fillNumber_16 ?_
    refine hv_sipush (v := 999) dX8_fillNumber_17 (by decide) ?_
    rw [h4, nI_1]
    refine hv_cv2 (c_number2 (i := s + 1) (most := 999) ht (hrj (s + 1) (by omega) (by omega)) p2 (by decide) hs) dX8_fillNumber_20 ml_X8_62 mk_X8_number (by first | rfl | assumption) rfl rfl rfl rfl rfl ?_
    rintro _ _ σ1 _ ⟨rfl, rfl, rfl, a1, a2, a3⟩
    refine hv_puti dX8_fillNumber_23 fl_X8_66 (by first | rfl | assumption) rfl rfl rfl ?_
    refine hv_goto (tgt := 83) dX8_fillNumber_26 (by decide) ?_
    refine hv_vret dX8_fillNumber_83 rfl ?_
    refine ⟨rfl, rfl, rfl, off_up (off_wk a1 (by decide)) (by decide), fun j j1 j2 => by rw [hva_ne (by decide)]; exact a2 j j1 j2, ?_⟩
    by_cases z : 999 < vl f n (s + 1)
    · rw [if_pos z] at a3 ⊢
      exact tSt_of a3 (hva_ne (by decide))
    · rw [if_neg z] at a3 ⊢
      have e51 : va_up σ1 51 (upd (σ1 51) 10 (nI (vl f n (s + 1)))) 51 = upd (σ 51) 10 (nI (vl f n (s + 1))) := by rw [hup_eq, a1 51 (by decide)]
      have eo : ∀ c, c ∉ [8, 51] → va_up σ1 51 (upd (σ1 51) 10 (nI (vl f n (s + 1)))) c = σ c := off_up (off_wk a1 (by decide)) (by decide)
      refine ⟨tSt_of a3 (hva_ne (by decide)), ⟨?_, n2, ?_, n4, fun i hi => by rw [eo 9 (by decide)]; exact n5 i hi, fun i hi => by rw [eo 10 (by decide)]; exact n6 i hi⟩, ?_, c3, fun i hi => by rw [eo 52 (by decide), eo 53 (by decide), eo 54 (by decide), eo 55 (by decide), eo 56 (by decide)]; exact c4 i hi, fun i hi => by rw [eo 57 (by decide)]; exact c5 i hi, ?_, ?_, ?_⟩
      · rw [e51, pk_un (by decide)]; exact n1
      · rw [e51, pk_un (by decide)]; exact n3
      · rw [e51, pk_un (by decide)]; exact c2
      · rw [e51]; first | rw [pk_us]; rfl | rw [pk_un (by decide)]; exact c6
      · rw [e51]; first | rw [pk_us]; rfl | rw [pk_un (by decide)]; exact c7
      · rw [e51]; first | rw [pk_us]; rfl | rw [pk_un (by decide)]; exact c8
  by_cases k9 : kd f n s = 9
  · obtain ⟨p1, p2⟩ := t6 (by omega)
    rw [show smTell (kd f n) (vl f n) (dg f n) S s e = (if 100 < vl f n (s + 1) then .inl (5, s + 1) else .inr (S.1, S.2.1, S.2.2.1, S.2.2.2.1, (sSa S, vl f n (s + 1), sSe S))) by unfold smTell; rw [if_neg k0, if_neg k1, if_neg k2, if_neg k8, if_pos k9]]
    rw [k9]
    refine hv_enter pn_X8 rfl ?_
    refine hv_iload_n dX8_fillNumber_0 rfl ?_
    refine hv_bipush (v := 8) dX8_fillNumber_1 (by decide) ?_
    refine hv_icmp_ne (tgt := 29) dX8_fillNumber_3 (by decide) (fun c_3 => ?_) (fun c_3 => absurd c_3 ((by decide)))
    refine hv_iload_n dX8_fillNumber_29 rfl ?_
    refine hv_bipush (v := 9) dX8_fillNumber_30 (by decide) ?_
    refine hv_icmp_ne (tgt := 57) dX8_fillNumber_32 (by decide) (fun c_32 => absurd (rfl) c_32) (fun c_32 => ?_)
    refine hv_aload_n dX8_fillNumber_35 rfl ?_
    refine hv_getr dX8_fillNumber_36 fl_X8_22 (by first | rfl | assumption) rfl (by first | rfl | assumption) ?_
    refine hv_aload_n dX8_fillNumber_39 rfl ?_
    refine hv_aload_n dX8_fillNumber_40 rfl ?_
    refine hv_geti dX8_fillNumber_41 fl_X8_26 (by first | rfl | assumption) rfl ?_
    refine hv_iconst (v := 1) dX8_fillNumber_44 (by decide) ?_
    refine hv_iadd dX8_fillNumber_45 ?_
    refine hv_bipush (v := 100) dX8_fillNumber_46 (by decide) ?_
    rw [h4, nI_1]
    refine hv_cv2 (c_number2 (i := s + 1) (most := 100) ht (hrj (s + 1) (by omega) (by omega)) p2 (by decide) hs) dX8_fillNumber_48 ml_X8_62 mk_X8_number (by first | rfl | assumption) rfl rfl rfl rfl rfl ?_
    rintro _ _ σ1 _ ⟨rfl, rfl, rfl, a1, a2, a3⟩
    refine hv_puti dX8_fillNumber_51 fl_X8_71 (by first | rfl | assumption) rfl rfl rfl ?_
    refine hv_goto (tgt := 83) dX8_fillNumber_54 (by decide) ?_
    refine hv_vret dX8_fillNumber_83 rfl ?_
    refine ⟨rfl, rfl, rfl, off_up (off_wk a1 (by decide)) (by decide), fun j j1 j2 => by rw [hva_ne (by decide)]; exact a2 j j1 j2, ?_⟩
    by_cases z : 100 < vl f n (s + 1)
    · rw [if_pos z] at a3 ⊢
      exact tSt_of a3 (hva_ne (by decide))
    · rw [if_neg z] at a3 ⊢
      have e51 : va_up σ1 51 (upd (σ1 51) 11 (nI (vl f n (s + 1)))) 51 = upd (σ 51) 11 (nI (vl f n (s + 1))) := by rw [hup_eq, a1 51 (by decide)]
      have eo : ∀ c, c ∉ [8, 51] → va_up σ1 51 (upd (σ1 51) 11 (nI (vl f n (s + 1)))) c = σ c := off_up (off_wk a1 (by decide)) (by decide)
      refine ⟨tSt_of a3 (hva_ne (by decide)), ⟨?_, n2, ?_, n4, fun i hi => by rw [eo 9 (by decide)]; exact n5 i hi, fun i hi => by rw [eo 10 (by decide)]; exact n6 i hi⟩, ?_, c3, fun i hi => by rw [eo 52 (by decide), eo 53 (by decide), eo 54 (by decide), eo 55 (by decide), eo 56 (by decide)]; exact c4 i hi, fun i hi => by rw [eo 57 (by decide)]; exact c5 i hi, ?_, ?_, ?_⟩
      · rw [e51, pk_un (by decide)]; exact n1
      · rw [e51, pk_un (by decide)]; exact n3
      · rw [e51, pk_un (by decide)]; exact c2
      · rw [e51]; first | rw [pk_us]; rfl | rw [pk_un (by decide)]; exact c6
      · rw [e51]; first | rw [pk_us]; rfl | rw [pk_un (by decide)]; exact c7
      · rw [e51]; first | rw [pk_us]; rfl | rw [pk_un (by decide)]; exact c8
  by_cases k10 : kd f n s = 10
  · obtain ⟨p1, p2⟩ := t6 (by omega)
    rw [show smTell (kd f n) (vl f n) (dg f n) S s e = (if 9999 < vl f n (s + 1) then .inl (5, s + 1) else .inr (S.1, S.2.1, S.2.2.1, S.2.2.2.1, (sSa S, sOd S, vl f n (s + 1)))) by unfold smTell; rw [if_neg k0, if_neg k1, if_neg k2, if_neg k8, if_neg k9, if_pos k10]]
    rw [k10]
    refine hv_enter pn_X8 rfl ?_
    refine hv_iload_n dX8_fillNumber_0 rfl ?_
    refine hv_bipush (v := 8) dX8_fillNumber_1 (by decide) ?_
    refine hv_icmp_ne (tgt := 29) dX8_fillNumber_3 (by decide) (fun c_3 => ?_) (fun c_3 => absurd c_3 ((by decide)))
    refine hv_iload_n dX8_fillNumber_29 rfl ?_
    refine hv_bipush (v := 9) dX8_fillNumber_30 (by decide) ?_
    refine hv_icmp_ne (tgt := 57) dX8_fillNumber_32 (by decide) (fun c_32 => ?_) (fun c_32 => absurd c_32 ((by decide)))
    refine hv_iload_n dX8_fillNumber_57 rfl ?_
    refine hv_bipush (v := 10) dX8_fillNumber_58 (by decide) ?_
    refine hv_icmp_ne (tgt := 83) dX8_fillNumber_60 (by decide) (fun c_60 => absurd (rfl) c_60) (fun c_60 => ?_)
    refine hv_aload_n dX8_fillNumber_63 rfl ?_
    refine hv_getr dX8_fillNumber_64 fl_X8_22 (by first | rfl | assumption) rfl (by first | rfl | assumption) ?_
    refine hv_aload_n dX8_fillNumber_67 rfl ?_
    refine hv_aload_n dX8_fillNumber_68 rfl ?_
    refine hv_geti dX8_fillNumber_69 fl_X8_26 (by first | rfl | assumption) rfl ?_
    refine hv_iconst (v := 1) dX8_fillNumber_72 (by decide) ?_
    refine hv_iadd dX8_fillNumber_73 ?_
    refine hv_sipush (v := 9999) dX8_fillNumber_74 (by decide) ?_
    rw [h4, nI_1]
    refine hv_cv2 (c_number2 (i := s + 1) (most := 9999) ht (hrj (s + 1) (by omega) (by omega)) p2 (by decide) hs) dX8_fillNumber_77 ml_X8_62 mk_X8_number (by first | rfl | assumption) rfl rfl rfl rfl rfl ?_
    rintro _ _ σ1 _ ⟨rfl, rfl, rfl, a1, a2, a3⟩
    refine hv_puti dX8_fillNumber_80 fl_X8_74 (by first | rfl | assumption) rfl rfl rfl ?_
    refine hv_vret dX8_fillNumber_83 rfl ?_
    refine ⟨rfl, rfl, rfl, off_up (off_wk a1 (by decide)) (by decide), fun j j1 j2 => by rw [hva_ne (by decide)]; exact a2 j j1 j2, ?_⟩
    by_cases z : 9999 < vl f n (s + 1)
    · rw [if_pos z] at a3 ⊢
      exact tSt_of a3 (hva_ne (by decide))
    · rw [if_neg z] at a3 ⊢
      have e51 : va_up σ1 51 (upd (σ1 51) 12 (nI (vl f n (s + 1)))) 51 = upd (σ 51) 12 (nI (vl f n (s + 1))) := by rw [hup_eq, a1 51 (by decide)]
      have eo : ∀ c, c ∉ [8, 51] → va_up σ1 51 (upd (σ1 51) 12 (nI (vl f n (s + 1)))) c = σ c := off_up (off_wk a1 (by decide)) (by decide)
      refine ⟨tSt_of a3 (hva_ne (by decide)), ⟨?_, n2, ?_, n4, fun i hi => by rw [eo 9 (by decide)]; exact n5 i hi, fun i hi => by rw [eo 10 (by decide)]; exact n6 i hi⟩, ?_, c3, fun i hi => by rw [eo 52 (by decide), eo 53 (by decide), eo 54 (by decide), eo 55 (by decide), eo 56 (by decide)]; exact c4 i hi, fun i hi => by rw [eo 57 (by decide)]; exact c5 i hi, ?_, ?_, ?_⟩
      · rw [e51, pk_un (by decide)]; exact n1
      · rw [e51, pk_un (by decide)]; exact n3
      · rw [e51, pk_un (by decide)]; exact c2
      · rw [e51]; first | rw [pk_us]; rfl | rw [pk_un (by decide)]; exact c6
      · rw [e51]; first | rw [pk_us]; rfl | rw [pk_un (by decide)]; exact c7
      · rw [e51]; first | rw [pk_us]; rfl | rw [pk_un (by decide)]; exact c8
  rw [show smTell (kd f n) (vl f n) (dg f n) S s e = .inr S by unfold smTell; rw [if_neg k0, if_neg k1, if_neg k2, if_neg k8, if_neg k9, if_neg k10]]
  rcases (show kd f n s = 3 ∨ kd f n s = 4 ∨ kd f n s = 5 ∨ kd f n s = 6 ∨ kd f n s = 7 by omega) with q | q | q | q | q
  · rw [q]
    refine hv_enter pn_X8 rfl ?_
    refine hv_iload_n dX8_fillNumber_0 rfl ?_
    refine hv_bipush (v := 8) dX8_fillNumber_1 (by decide) ?_
    refine hv_icmp_ne (tgt := 29) dX8_fillNumber_3 (by decide) (fun c_3 => ?_) (fun c_3 => absurd c_3 ((by decide)))
    refine hv_iload_n dX8_fillNumber_29 rfl ?_
    refine hv_bipush (v := 9) dX8_fillNumber_30 (by decide) ?_
    refine hv_icmp_ne (tgt := 57) dX8_fillNumber_32 (by decide) (fun c_32 => ?_) (fun c_32 => absurd c_32 ((by decide)))
    refine hv_iload_n dX8_fillNumber_57 rfl ?_
    refine hv_bipush (v := 10) dX8_fillNumber_58 (by decide) ?_
    refine hv_icmp_ne (tgt := 83) dX8_fillNumber_60 (by decide) (fun c_60 => ?_) (fun c_60 => absurd c_60 ((by decide)))
    refine hv_vret dX8_fillNumber_83 rfl ?_
    exact ⟨rfl, rfl, rfl, fun _ _ => rfl, k8_rf, hs, hcc⟩
  · rw [q]
    refine hv_enter pn_X8 rfl ?_
    refine hv_iload_n dX8_fillNumber_0 rfl ?_
    refine hv_bipush (v := 8) dX8_fillNumber_1 (by decide) ?_
    refine hv_icmp_ne (tgt := 29) dX8_fillNumber_3 (by decide) (fun c_3 => ?_) (fun c_3 => absurd c_3 ((by decide)))
    refine hv_iload_n dX8_fillNumber_29 rfl ?_
    refine hv_bipush (v := 9) dX8_fillNumber_30 (by decide) ?_
    refine hv_icmp_ne (tgt := 57) dX8_fillNumber_32 (by decide) (fun c_32 => ?_) (fun c_32 => absurd c_32 ((by decide)))
    refine hv_iload_n dX8_fillNumber_57 rfl ?_
    refine hv_bipush (v := 10) dX8_fillNumber_58 (by decide) ?_
    refine hv_icmp_ne (tgt := 83) dX8_fillNumber_60 (by decide) (fun c_60 => ?_) (fun c_60 => absurd c_60 ((by decide)))
    refine hv_vret dX8_fillNumber_83 rfl ?_
    exact ⟨rfl, rfl, rfl, fun _ _ => rfl, k8_rf, hs, hcc⟩
  · rw [q]
    refine hv_enter pn_X8 rfl ?_
    refine hv_iload_n dX8_fillNumber_0 rfl ?_
    refine hv_bipush (v := 8) dX8_fillNumber_1 (by decide) ?_
    refine hv_icmp_ne (tgt := 29) dX8_fillNumber_3 (by decide) (fun c_3 => ?_) (fun c_3 => absurd c_3 ((by decide)))
    refine hv_iload_n dX8_fillNumber_29 rfl ?_
    refine hv_bipush (v := 9) dX8_fillNumber_30 (by decide) ?_
    refine hv_icmp_ne (tgt := 57) dX8_fillNumber_32 (by decide) (fun c_32 => ?_) (fun c_32 => absurd c_32 ((by decide)))
    refine hv_iload_n dX8_fillNumber_57 rfl ?_
    refine hv_bipush (v := 10) dX8_fillNumber_58 (by decide) ?_
    refine hv_icmp_ne (tgt := 83) dX8_fillNumber_60 (by decide) (fun c_60 => ?_) (fun c_60 => absurd c_60 ((by decide)))
    refine hv_vret dX8_fillNumber_83 rfl ?_
    exact ⟨rfl, rfl, rfl, fun _ _ => rfl, k8_rf, hs, hcc⟩
  · rw [q]
    refine hv_enter pn_X8 rfl ?_
    refine hv_iload_n dX8_fillNumber_0 rfl ?_
    refine hv_bipush (v := 8) dX8_fillNumber_1 (by decide) ?_
    refine hv_icmp_ne (tgt := 29) dX8_fillNumber_3 (by decide) (fun c_3 => ?_) (fun c_3 => absurd c_3 ((by decide)))
    refine hv_iload_n dX8_fillNumber_29 rfl ?_
    refine hv_bipush (v := 9) dX8_fillNumber_30 (by decide) ?_
    refine hv_icmp_ne (tgt := 57) dX8_fillNumber_32 (by decide) (fun c_32 => ?_) (fun c_32 => absurd c_32 ((by decide)))
    refine hv_iload_n dX8_fillNumber_57 rfl ?_
    refine hv_bipush (v := 10) dX8_fillNumber_58 (by decide) ?_
    refine hv_icmp_ne (tgt := 83) dX8_fillNumber_60 (by decide) (fun c_60 => ?_) (fun c_60 => absurd c_60 ((by decide)))
    refine hv_vret dX8_fillNumber_83 rfl ?_
    exact ⟨rfl, rfl, rfl, fun _ _ => rfl, k8_rf, hs, hcc⟩
  · rw [q]
    refine hv_enter pn_X8 rfl ?_
    refine hv_iload_n dX8_fillNumber_0 rfl ?_
    refine hv_bipush (v := 8) dX8_fillNumber_1 (by decide) ?_
    refine hv_icmp_ne (tgt := 29) dX8_fillNumber_3 (by decide) (fun c_3 => ?_) (fun c_3 => absurd c_3 ((by decide)))
    refine hv_iload_n dX8_fillNumber_29 rfl ?_
    refine hv_bipush (v := 9) dX8_fillNumber_30 (by decide) ?_
    refine hv_icmp_ne (tgt := 57) dX8_fillNumber_32 (by decide) (fun c_32 => ?_) (fun c_32 => absurd c_32 ((by decide)))
    refine hv_iload_n dX8_fillNumber_57 rfl ?_
    refine hv_bipush (v := 10) dX8_fillNumber_58 (by decide) ?_
    refine hv_icmp_ne (tgt := 83) dX8_fillNumber_60 (by decide) (fun c_60 => ?_) (fun c_60 => absurd c_60 ((by decide)))
    refine hv_vret dX8_fillNumber_83 rfl ?_
    exact ⟨rfl, rfl, rfl, fun _ _ => rfl, k8_rf, hs, hcc⟩
/-- one TELL in the loop of fill -/
theorem v_fillTell {f : hF} {n s e : Nat} {S : hSm} {l : Option (Nat × hLw)} {i : Int32} {Q : hPo} (ht : tlC f n σ) (hc : clsS f n S σ) (ho : okS S) (hh : kd f n s = 0 → sH S < 7) (hrr : kd f n s = 1 → sR S < 16) (hm : kd f n s = 2 → sM S < 5) (h4 : σ 8 4 = nI s) (hs : tSt none σ) (hr : rel f n s) (he : e ≤ 400) (htl : tlP (kd f n) s e l) (kk : ∀ σ' : hS, (∀ c, c ∉ xTl → σ' c = σ c) → k8 σ σ' → pSm f n (smTell (kd f n) (vl f n) (dg f n) S s e) σ' → hV G (m_X8_fill Q) 0 0 shp 86 [some (.ref (hgA G 8)), some (.ref (hgA G 51)), some (.int (nI (kd f n s))), some (.int i)] [] (rr 38 51 x (some 51)) σ' τ) : hV G (m_X8_fill Q) 0 0 shp 46 [some (.ref (hgA G 8)), some (.ref (hgA G 51)), some (.int (nI (kd f n s))), some (.int i)] [] (rr 38 51 x (some 51)) σ τ := by
  have hcc := hc
  have htt := htl
  obtain ⟨t1, t2, t3, t4, t5, t6, t7, t8, t9⟩ := htl
  have hkl := kd_le f n s
  have hrj : ∀ j, s ≤ j → j ≤ e → rel f n j := fun j j1 j2 => rel_up hr he t2 j2 j1
  by_cases k0 : kd f n s = 0
  · obtain ⟨p1, p2, p3, p4, p5, p6⟩ := t3 k0
    rw [show smTell (kd f n) (vl f n) (dg f n) S s e = smHouse (vl f n) (dg f n) S s by unfold smTell; rw [if_pos k0]] at kk
    refine hv_iload_n dX8_fill_46 rfl ?_
    refine hv_if_ne (tgt := 57) dX8_fill_47 (by decide) (fun c_47 => absurd ((by rw [k0]; rfl)) c_47) (fun c_47 => ?_)
    refine hv_aload_n dX8_fill_50 rfl ?_
    refine hv_cv0 (c_fillHouse ht hcc (hh k0) h4 hs (fun j j1 j2 => hrj j j1 (by omega)) ⟨p2, p3, p4, p5, p6⟩) dX8_fill_51 ml_X8_39 mk_X8_fillHouse (by first | rfl | assumption) rfl rfl rfl rfl rfl ?_
    rintro _ _ σ1 _ ⟨rfl, rfl, rfl, a1, a2, a3⟩
    refine hv_goto (tgt := 86) dX8_fill_54 (by decide) ?_
    exact kk σ1 a1 a2 a3
  by_cases k1 : kd f n s = 1
  · obtain ⟨p1, p2, p3⟩ := t4 k1
    rw [show smTell (kd f n) (vl f n) (dg f n) S s e = smHears (dg f n) S s by unfold smTell; rw [if_neg k0, if_pos k1]] at kk
    refine hv_iload_n dX8_fill_46 rfl ?_
    refine hv_if_ne (tgt := 57) dX8_fill_47 (by decide) (fun c_47 => ?_) (fun c_47 => absurd c_47 ((by rw [k1]; decide)))
    refine hv_iload_n dX8_fill_57 rfl ?_
    refine hv_iconst (v := 1) dX8_fill_58 (by decide) ?_
    refine hv_icmp_ne (tgt := 69) dX8_fill_59 (by decide) (fun c_59 => absurd ((by rw [k1]; rfl)) c_59) (fun c_59 => ?_)
    refine hv_aload_n dX8_fill_62 rfl ?_
    refine hv_cv0 (c_fillHearing ht hcc ho (hrr k1) h4 hs (fun j j1 j2 => hrj j j1 (by omega)) ⟨p2, p3⟩) dX8_fill_63 ml_X8_42 mk_X8_fillHearing (by first | rfl | assumption) rfl rfl rfl rfl rfl ?_
    rintro _ _ σ1 _ ⟨rfl, rfl, rfl, a1, a2, a3⟩
    refine hv_goto (tgt := 86) dX8_fill_66 (by decide) ?_
    exact kk σ1 a1 a2 a3
  by_cases k2 : kd f n s = 2
  · obtain ⟨p1, p2, p3⟩ := t5 k2
    rw [show smTell (kd f n) (vl f n) (dg f n) S s e = smMotion (dg f n) S s e by unfold smTell; rw [if_neg k0, if_neg k1, if_pos k2]] at kk
    refine hv_iload_n dX8_fill_46 rfl ?_
    refine hv_if_ne (tgt := 57) dX8_fill_47 (by decide) (fun c_47 => ?_) (fun c_47 => absurd c_47 ((by rw [k2]; decide)))
    refine hv_iload_n dX8_fill_57 rfl ?_
    refine hv_iconst (v := 1) dX8_fill_58 (by decide) ?_
    refine hv_icmp_ne (tgt := 69) dX8_fill_59 (by decide) (fun c_59 => ?_) (fun c_59 => absurd c_59 ((by rw [k2]; decide)))
    refine hv_iload_n dX8_fill_69 rfl ?_
    refine hv_iconst (v := 2) dX8_fill_70 (by decide) ?_
    refine hv_icmp_ne (tgt := 81) dX8_fill_71 (by decide) (fun c_71 => absurd ((by rw [k2]; rfl)) c_71) (fun c_71 => ?_)
    refine hv_aload_n dX8_fill_74 rfl ?_
    refine hv_cv0 (c_fillMotion (e := e) ht hcc ho (hm k2) h4 hs (fun j j1 j2 => hrj j j1 j2) p1 p2 p3 t2.2.1) dX8_fill_75 ml_X8_45 mk_X8_fillMotion (by first | rfl | assumption) rfl rfl rfl rfl rfl ?_
    rintro _ _ σ1 _ ⟨rfl, rfl, rfl, a1, a2, a3⟩
    refine hv_goto (tgt := 86) dX8_fill_78 (by decide) ?_
    exact kk σ1 a1 a2 a3
  refine hv_iload_n dX8_fill_46 rfl ?_
  refine hv_if_ne (tgt := 57) dX8_fill_47 (by decide) (fun c_47 => ?_) (fun c_47 => absurd c_47 ((fun q => k0 ((nI_eq (b := 0) (by omega) (by decide)).mp q))))
  refine hv_iload_n dX8_fill_57 rfl ?_
  refine hv_iconst (v := 1) dX8_fill_58 (by decide) ?_
  refine hv_icmp_ne (tgt := 69) dX8_fill_59 (by decide) (fun c_59 => ?_) (fun c_59 => absurd c_59 ((fun q => k1 ((nI_eq (b := 1) (by omega) (by decide)).mp q))))
  refine hv_iload_n dX8_fill_69 rfl ?_
  refine hv_iconst (v := 2) dX8_fill_70 (by decide) ?_
  refine hv_icmp_ne (tgt := 81) dX8_fill_71 (by decide) (fun c_71 => ?_) (fun c_71 => absurd c_71 ((fun q => k2 ((nI_eq (b := 2) (by omega) (by decide)).mp q))))
  refine hv_aload_n dX8_fill_81 rfl ?_
  refine hv_iload_n dX8_fill_82 rfl ?_
  refine hv_cv1 (c_fillNumber ht hcc h4 hs hr he htt k0 k1 k2) dX8_fill_83 ml_X8_48 mk_X8_fillNumber (by first | rfl | assumption) rfl rfl rfl rfl rfl ?_
  rintro _ _ σ1 _ ⟨rfl, rfl, rfl, a1, a2, a3⟩
  exact kk σ1 a1 a2 a3
theorem semX_s (K V D : Nat → Nat) (k s h r m : Nat) (S : hSm) : semX K V D (k + 1) s h r m S = if K s = 25 then .inr S else match tellX K V h r m s with
    | .inl _ => .inr S
    | .inr (e, _) => match smTell K V D S s e with
      | .inl x => .inl x
      | .inr S' => semX K V D k e (cnt K 0 h s) (cnt K 1 r s) (cnt K 2 m s) S' := rfl
theorem tell_room {K V : Nat → Nat} {h r m s e : Nat} {l : Option (Nat × hLw)} (q : tellX K V h r m s = .inr (e, l)) : (K s = 0 → h < 7) ∧ (K s = 1 → r < 16) ∧ (K s = 2 → m < 5) := by
  unfold tellX at q
  refine ⟨fun k => ?_, fun k => ?_, fun k => ?_⟩
  · rw [if_pos k] at q
    split at q
    · cases q
    · omega
  · rw [if_neg (by omega), if_pos k] at q
    split at q
    · cases q
    · omega
  · rw [if_neg (by omega), if_neg (by omega), if_pos k] at q
    split at q
    · cases q
    · omega
theorem c_fill {f : hF} {n : Nat} {L0 : hLs} {a9 h9 r9 m9 : Nat} {L9 : hLs} (ht : tlC f n σ) (hc : clsS f n sm0 σ) (hT : textX (kd f n) (vl f n) 401 0 0 0 0 L0 = .inr (a9, (h9, r9, m9, L9))) : hCal G (m_X8_fill (fun v' r' σ' τ' => v' = none ∧ r' = rr 38 51 x (some 51) ∧ τ' = τ ∧ (∀ c, c ∉ xTl → σ' c = σ c) ∧ match semX (kd f n) (vl f n) (dg f n) 401 0 0 0 0 sm0 with
    | .inl e => tSt (some e) σ'
    | .inr S => tSt none σ' ∧ clsS f n S σ' ∧ okS S)) [.ref (hgA G 8), .ref (hgA G 51)] shp (rr 38 51 x y) σ τ := by
  refine hv_enter pn_X8 rfl ?_
  have loop : ∀ k i s h r m (L : hLs) (S : hSm) R (σ1 : hS), i + k = 401 → (∀ c, c ∉ xTl → σ1 c = σ c) → tlC f n σ1 → rel f n s → σ1 8 4 = nI s → tSt none σ1 → clsS f n S σ1 → okS S → sH S = h → sR S = r → sM S = m → textX (kd f n) (vl f n) k s h r m L = .inr (a9, (h9, r9, m9, L9)) → semX (kd f n) (vl f n) (dg f n) k s h r m S = R → hV G (m_X8_fill (fun v' r' σ' τ' => v' = none ∧ r' = rr 38 51 x (some 51) ∧ τ' = τ ∧ (∀ c, c ∉ xTl → σ' c = σ c) ∧ match R with
    | .inl e => tSt (some e) σ'
    | .inr S => tSt none σ' ∧ clsS f n S σ' ∧ okS S)) 0 0 shp 26 [some (.ref (hgA G 8)), some (.ref (hgA G 51)), some (.int (nI (kd f n s))), some (.int (nI i))] [] (rr 38 51 x (some 51)) σ1 τ := by
    intro k
    induction k with
    | zero =>
      intro i s h r m L S R σ1 hi hσ t1 hr h4 hs hc ho e1 e2 e3 hT hR
      obtain rfl : i = 401 := by omega
      refine hv_iload_n dX8_fill_26 rfl ?_
      refine hv_sipush (v := 400) dX8_fill_27 (by decide) ?_
      refine hv_icmp_gt (tgt := 108) dX8_fill_30 (by decide) (fun c_30 => ?_) (fun c_30 => absurd ((by decide)) c_30)
      refine hv_vret dX8_fill_108 rfl ?_
      rw [← hR]; exact ⟨rfl, rfl, rfl, hσ, hs, hc, ho⟩
    | succ k ih =>
      intro i s h r m L S R σ1 hi hσ t1 hr h4 hs hc ho e1 e2 e3 hT hR
      have hkl := kd_le f n s
      rw [semX_s] at hR
      rw [textX_s] at hT
      by_cases c25 : kd f n s = 25
      · rw [if_pos c25] at hR
        refine hv_iload_n dX8_fill_26 rfl ?_
        refine hv_sipush (v := 400) dX8_fill_27 (by decide) ?_
        refine hv_icmp_gt (tgt := 108) dX8_fill_30 (by decide) (fun c_30 => absurd c_30 ((nI_nlt (a := 400) (by omega) (by decide)))) (fun c_30 => ?_)
        refine hv_aload_n dX8_fill_33 rfl ?_
        refine hv_geti dX8_fill_34 fl_X8_30 (by first | rfl | assumption) rfl ?_
        refine hv_if_ne (tgt := 108) dX8_fill_37 (by decide) (fun c_37 => absurd (hs) c_37) (fun c_37 => ?_)
        refine hv_iload_n dX8_fill_40 rfl ?_
        refine hv_bipush (v := 25) dX8_fill_41 (by decide) ?_
        refine hv_icmp_eq (tgt := 108) dX8_fill_43 (by decide) (fun c_43 => ?_) (fun c_43 => absurd ((by rw [c25]; rfl)) c_43)
        refine hv_vret dX8_fill_108 rfl ?_
        rw [← hR]; exact ⟨rfl, rfl, rfl, hσ, hs, hc, ho⟩
      · rw [if_neg c25] at hR hT
        obtain ⟨e, l, hX, hT2⟩ := bd_iff.mp hT
        rw [hX] at hR
        dsimp only at hR
        have hok := tellX_ok (kd f n) (vl f n) h r m s hr.1
        rw [hX] at hok
        obtain ⟨o1, o2, o3, o4⟩ := hok
        obtain ⟨z1, z2, z3⟩ := tell_room hX
        refine hv_iload_n dX8_fill_26 rfl ?_
        refine hv_sipush (v := 400) dX8_fill_27 (by decide) ?_
        refine hv_icmp_gt (tgt := 108) dX8_fill_30 (by decide) (fun c_30 => absurd c_30 ((nI_nlt (a := 400) (by omega) (by decide)))) (fun c_30 => ?_)
        refine hv_aload_n dX8_fill_33 rfl ?_
        refine hv_geti dX8_fill_34 fl_X8_30 (by first | rfl | assumption) rfl ?_
        refine hv_if_ne (tgt := 108) dX8_fill_37 (by decide) (fun c_37 => absurd (hs) c_37) (fun c_37 => ?_)
        refine hv_iload_n dX8_fill_40 rfl ?_
        refine hv_bipush (v := 25) dX8_fill_41 (by decide) ?_
        refine hv_icmp_eq (tgt := 108) dX8_fill_43 (by decide) (fun c_43 => absurd c_43 ((fun q => c25 ((nI_eq (b := 25) (by omega) (by decide)).mp q)))) (fun c_43 => ?_)
        refine v_fillTell (S := S) (e := e) t1 hc ho (fun q => by rw [e1]; exact z1 q) (fun q => by rw [e2]; exact z2 q) (fun q => by rw [e3]; exact z3 q) h4 hs hr o2 o4 (fun σ2 a1 a2 a3 => ?_)
        have t2 := tlC_of t1 a1 rfl
        refine hv_aload_n dX8_fill_86 rfl ?_
        refine hv_cv0 (c_skipTell (s := s) (e := e) t2 hr o2 o4.2.1 (by rw [a2 4 (by decide) (by decide)]; exact h4)) dX8_fill_87 ml_X8_52 mk_X8_skipTell (by first | rfl | assumption) rfl rfl rfl rfl rfl ?_
        rintro _ _ σ3 _ ⟨rfl, rfl, rfl, b1, b2⟩
        have t3 := tlC_of t2 b1 rfl
        have g4 : σ3 8 4 = nI e := by rw [b2, pk_us]
        have gs : ∀ o, tSt o σ2 → tSt o σ3 := fun o q => by
          rcases o with _ | ⟨kk, tt⟩
          · show σ3 8 5 = 0; rw [b2, pk_un (by decide)]; exact q
          · exact ⟨by rw [b2, pk_un (by decide)]; exact q.1, q.2.1, by rw [b2, pk_un (by decide)]; exact q.2.2⟩
        have gσ : ∀ c, c ∉ xTl → σ3 c = σ c := off_tr (off_tr hσ a1 (Z := xTl) (by decide) (by decide)) b1 (by decide) (by decide)
        refine hv_aload_n dX8_fill_90 rfl ?_
        refine hv_getr dX8_fill_91 fl_X8_18 (by first | rfl | assumption) rfl (by first | rfl | assumption) ?_
        refine hv_aload_n dX8_fill_94 rfl ?_
        refine hv_geti dX8_fill_95 fl_X8_26 (by first | rfl | assumption) rfl ?_
        rw [g4]
        refine hv_cv1 (c_kind t3.2.2.2 (rel_up hr o2 o4.2.1 (Nat.le_refl _) o1)) dX8_fill_98 ml_X8_33 mk_X9_kind (by first | rfl | assumption) rfl rfl rfl rfl rfl ?_
        rintro _ _ _ _ ⟨rfl, rfl, rfl, rfl⟩
        refine hv_istore_n dX8_fill_101 rfl rfl ?_
        refine hv_iinc dX8_fill_102 rfl (nI_1 i) rfl rfl ?_
        refine hv_goto (tgt := 26) dX8_fill_105 (by decide) ?_
        rcases hsm : smTell (kd f n) (vl f n) (dg f n) S s e with ee | S'
        · rw [hsm] at a3 hR
          have a4 : tSt (some ee) σ2 := a3
          have a5 := gs _ a4
          dsimp only at hR
          subst hR
          obtain ⟨v1, v2, v3⟩ := a5
          refine hv_iload_n dX8_fill_26 rfl ?_
          refine hv_sipush (v := 400) dX8_fill_27 (by decide) ?_
          refine hv_icmp_gt (tgt := 108) dX8_fill_30 (by decide) (fun c_30 => ?_) (fun c_30 => ?_)
          · refine hv_vret dX8_fill_108 rfl ?_
            exact ⟨rfl, rfl, rfl, gσ, v1, v2, v3⟩
          · refine hv_aload_n dX8_fill_33 rfl ?_
            refine hv_geti dX8_fill_34 fl_X8_30 (by first | rfl | assumption) rfl ?_
            refine hv_if_ne (tgt := 108) dX8_fill_37 (by decide) (fun c_37 => ?_) (fun c_37 => absurd c_37 ((by rw [v1]; exact nI_ne0 (by omega) (by omega))))
            refine hv_vret dX8_fill_108 rfl ?_
            exact ⟨rfl, rfl, rfl, gσ, v1, v2, v3⟩
        · rw [hsm] at a3 hR
          obtain ⟨a4, a5⟩ : tSt none σ2 ∧ clsS f n S' σ2 := a3
          dsimp only at hR
          obtain ⟨w1, w2, w3, w4⟩ := smTell_ok ho (fun q => by rw [e1]; exact z1 q) (fun q => by rw [e2]; exact z2 q) (fun q => by rw [e3]; exact z3 q) hsm
          exact ih (i + 1) e _ _ _ _ S' R σ3 (by omega) gσ t3 (rel_up hr o2 o4.2.1 (Nat.le_refl _) o1) g4 (gs _ a4) (clsS_of a5 b1) w1 (by rw [w2, e1]) (by rw [w3, e2]) (by rw [w4, e3]) hT2 hR
  refine hv_aload_n dX8_fill_0 rfl ?_
  refine hv_aload_n dX8_fill_1 rfl ?_
  refine hv_putr dX8_fill_2 fl_X8_22 (by first | rfl | assumption) rfl rfl rfl ?_
  rw [rr_py]
  refine hv_aload_n dX8_fill_5 rfl ?_
  refine hv_iconst (v := 0) dX8_fill_6 (by decide) ?_
  refine hv_puti dX8_fill_7 fl_X8_26 (by first | rfl | assumption) rfl rfl rfl ?_
  refine hv_aload_n dX8_fill_10 rfl ?_
  refine hv_iconst (v := 0) dX8_fill_11 (by decide) ?_
  refine hv_puti dX8_fill_12 fl_X8_30 (by first | rfl | assumption) rfl rfl rfl ?_
  refine hv_aload_n dX8_fill_15 rfl ?_
  refine hv_getr dX8_fill_16 fl_X8_18 (by first | rfl | assumption) rfl (by first | rfl | assumption) ?_
  refine hv_iconst (v := 0) dX8_fill_19 (by decide) ?_
  refine hv_cv1 (c_kind (f := f) (n := n) (i := 0) (tokC_of ht.2.2.2 (off_up (off_up (X := [8]) (fun _ _ => rfl) (by decide)) (by decide)) rfl) ⟨by omega, fun j hj => absurd hj (by omega)⟩) dX8_fill_20 ml_X8_33 mk_X9_kind (by first | rfl | assumption) rfl rfl rfl rfl rfl ?_
  rintro _ _ _ _ ⟨rfl, rfl, rfl, rfl⟩
  refine hv_istore_n dX8_fill_23 rfl rfl ?_
  refine hv_iconst (v := 0) dX8_fill_24 (by decide) ?_
  refine hv_istore_n dX8_fill_25 rfl rfl ?_
  simp only [hup_up, hup_eq]
  have o1 : ∀ c, c ∉ [8] → va_up σ 8 (upd (upd (σ 8) 4 0) 5 0) c = σ c := off_up (fun _ _ => rfl) (by decide)
  refine loop 401 0 0 0 0 0 L0 sm0 _ _ rfl (off_wk o1 (by decide)) (tlC_of ht o1 rfl) ⟨by omega, fun j hj => absurd hj (by omega)⟩ ?_ ?_ (clsS_of hc o1) ⟨by decide, by decide, by decide, fun i hi => absurd hi (by show ¬ i < 0; omega), fun i hi => absurd hi (by show ¬ i < 0; omega), by decide, by decide, by decide⟩ rfl rfl rfl hT rfl
  · rw [hup_eq, pk_un (by decide), pk_us]; rfl
  · show va_up σ 8 (upd (upd (σ 8) 4 0) 5 0) 8 5 = 0
    rw [hup_eq, pk_us]
end S86

