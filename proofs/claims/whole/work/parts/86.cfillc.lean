section S86
variable {G : hGl} {σ : hS} {τ : hT} {x y : Option Nat}
theorem clsS_of {f : hF} {n : Nat} {S : hSm} {σ σ' : hS} (h : clsS f n S σ) (hσ : ∀ c, c ∉ [8] → σ' c = σ c) : clsS f n S σ' := by
  unfold clsS nmC
  rw [hσ 51 (by decide), hσ 9 (by decide), hσ 10 (by decide), hσ 52 (by decide), hσ 53 (by decide), hσ 54 (by decide), hσ 55 (by decide), hσ 56 (by decide), hσ 57 (by decide)]
  exact h
theorem c_fillTell {f : hF} {n s e : Nat} {S : hSm} {l : Option (Nat × hLw)} (ht : tlC f n σ) (hc : clsS f n S σ) (ho : okS S) (hh : kd f n s = 0 → sH S < 7) (hrr : kd f n s = 1 → sR S < 16) (hm : kd f n s = 2 → sM S < 5) (h4 : σ 8 4 = nI s) (hs : tSt none σ) (hr : rel f n s) (he : e ≤ 400) (htl : tlP (kd f n) s e l) : hCal G (m_X8_fillTell (hQp xTl none (rr 38 51 x (some 51)) σ τ (fun σ' => k8 σ σ' ∧ pSm f n (smTell (kd f n) (vl f n) (dg f n) S s e) σ'))) [.ref (hgA G 8)] shp (rr 38 51 x (some 51)) σ τ := by
  obtain ⟨t1, t2, t3, t4, t5, t6, t7, t8, t9⟩ := htl
  have hrj : ∀ j, s ≤ j → j ≤ e → rel f n j := fun j j1 j2 => rel_up hr he t2 j2 j1
  have hcc := hc
  obtain ⟨⟨n1, n2, n3, n4, n5, n6⟩, c2, c3, c4, c5, c6, c7, c8⟩ := hc
  refine hv_enter pn_X8 rfl ?_
  by_cases k0 : kd f n s = 0
  · obtain ⟨p1, p2, p3, p4, p5, p6⟩ := t3 k0
    rw [show smTell (kd f n) (vl f n) (dg f n) S s e = smHouse (vl f n) (dg f n) S s by unfold smTell; rw [if_pos k0]]
    refine hv_aload_n dX8_fillTell_0 rfl ?_
    refine hv_getr dX8_fillTell_1 fl_X8_18 (by first | rfl | assumption) rfl (by first | rfl | assumption) ?_
    refine hv_aload_n dX8_fillTell_4 rfl ?_
    refine hv_geti dX8_fillTell_5 fl_X8_26 (by first | rfl | assumption) rfl ?_
    rw [h4]
    refine hv_cv1 (c_kind ht.2.2.2 hr) dX8_fillTell_8 ml_X8_35 mk_X9_kind (by first | rfl | assumption) rfl rfl rfl rfl rfl ?_
    rintro _ _ _ _ ⟨rfl, rfl, rfl, rfl⟩
    rw [k0]
    refine hv_tin (off := 57) (tgt := 68) (i := 0) (v := 0) dX8_fillTell_11 (rfl) (by decide) (by decide) (by decide) (by decide) ?_
    refine hv_aload_n dX8_fillTell_68 rfl ?_
    refine hv_cv0 (c_fillHouse ht hcc (hh k0) h4 hs (fun j j1 j2 => hrj j j1 (by omega)) ⟨p2, p3, p4, p5, p6⟩) dX8_fillTell_69 ml_X8_52 mk_X8_fillHouse (by first | rfl | assumption) rfl rfl rfl rfl rfl ?_
    rintro _ _ σ1 _ ⟨rfl, rfl, rfl, a1, a2, a3⟩
    refine hv_goto (tgt := 157) dX8_fillTell_72 (by decide) ?_
    refine hv_vret dX8_fillTell_157 rfl ?_
    exact ⟨rfl, rfl, rfl, a1, a2, a3⟩
  by_cases k1 : kd f n s = 1
  · obtain ⟨p1, p2, p3⟩ := t4 k1
    rw [show smTell (kd f n) (vl f n) (dg f n) S s e = smHears (dg f n) S s by unfold smTell; rw [if_neg k0, if_pos k1]]
    refine hv_aload_n dX8_fillTell_0 rfl ?_
    refine hv_getr dX8_fillTell_1 fl_X8_18 (by first | rfl | assumption) rfl (by first | rfl | assumption) ?_
    refine hv_aload_n dX8_fillTell_4 rfl ?_
    refine hv_geti dX8_fillTell_5 fl_X8_26 (by first | rfl | assumption) rfl ?_
    rw [h4]
    refine hv_cv1 (c_kind ht.2.2.2 hr) dX8_fillTell_8 ml_X8_35 mk_X9_kind (by first | rfl | assumption) rfl rfl rfl rfl rfl ?_
    rintro _ _ _ _ ⟨rfl, rfl, rfl, rfl⟩
    rw [k1]
    refine hv_tin (off := 64) (tgt := 75) (i := 1) (v := 1) dX8_fillTell_11 (rfl) (by decide) (by decide) (by decide) (by decide) ?_
    refine hv_aload_n dX8_fillTell_75 rfl ?_
    refine hv_cv0 (c_fillHearing ht hcc ho (hrr k1) h4 hs (fun j j1 j2 => hrj j j1 (by omega)) ⟨p2, p3⟩) dX8_fillTell_76 ml_X8_55 mk_X8_fillHearing (by first | rfl | assumption) rfl rfl rfl rfl rfl ?_
    rintro _ _ σ1 _ ⟨rfl, rfl, rfl, a1, a2, a3⟩
    refine hv_goto (tgt := 157) dX8_fillTell_79 (by decide) ?_
    refine hv_vret dX8_fillTell_157 rfl ?_
    exact ⟨rfl, rfl, rfl, a1, a2, a3⟩
  by_cases k2 : kd f n s = 2
  · obtain ⟨p1, p2, p3⟩ := t5 k2
    rw [show smTell (kd f n) (vl f n) (dg f n) S s e = smMotion (dg f n) S s e by unfold smTell; rw [if_neg k0, if_neg k1, if_pos k2]]
    refine hv_aload_n dX8_fillTell_0 rfl ?_
    refine hv_getr dX8_fillTell_1 fl_X8_18 (by first | rfl | assumption) rfl (by first | rfl | assumption) ?_
    refine hv_aload_n dX8_fillTell_4 rfl ?_
    refine hv_geti dX8_fillTell_5 fl_X8_26 (by first | rfl | assumption) rfl ?_
    rw [h4]
    refine hv_cv1 (c_kind ht.2.2.2 hr) dX8_fillTell_8 ml_X8_35 mk_X9_kind (by first | rfl | assumption) rfl rfl rfl rfl rfl ?_
    rintro _ _ _ _ ⟨rfl, rfl, rfl, rfl⟩
    rw [k2]
    refine hv_tin (off := 71) (tgt := 82) (i := 2) (v := 2) dX8_fillTell_11 (rfl) (by decide) (by decide) (by decide) (by decide) ?_
    refine hv_aload_n dX8_fillTell_82 rfl ?_
    refine hv_cv0 (c_fillMotion (e := e) ht hcc ho (hm k2) h4 hs (fun j j1 j2 => hrj j j1 j2) p1 p2 p3 t2.2.1) dX8_fillTell_83 ml_X8_58 mk_X8_fillMotion (by first | rfl | assumption) rfl rfl rfl rfl rfl ?_
    rintro _ _ σ1 _ ⟨rfl, rfl, rfl, a1, a2, a3⟩
    refine hv_goto (tgt := 157) dX8_fillTell_86 (by decide) ?_
    refine hv_vret dX8_fillTell_157 rfl ?_
    exact ⟨rfl, rfl, rfl, a1, a2, a3⟩
  by_cases k8 : kd f n s = 8
  · obtain ⟨p1, p2⟩ := t6 (by omega)
    rw [show smTell (kd f n) (vl f n) (dg f n) S s e = (if 999 < vl f n (s + 1) then .inl (5, s + 1) else .inr (S.1, S.2.1, S.2.2.1, S.2.2.2.1, (vl f n (s + 1), sOd S, sSe S))) by unfold smTell; rw [if_neg k0, if_neg k1, if_neg k2, if_pos k8]]
    refine hv_aload_n dX8_fillTell_0 rfl ?_
    refine hv_getr dX8_fillTell_1 fl_X8_18 (by first | rfl | assumption) rfl (by first | rfl | assumption) ?_
    refine hv_aload_n dX8_fillTell_4 rfl ?_
    refine hv_geti dX8_fillTell_5 fl_X8_26 (by first | rfl | assumption) rfl ?_
    rw [h4]
    refine hv_cv1 (c_kind ht.2.2.2 hr) dX8_fillTell_8 ml_X8_35 mk_X9_kind (by first | rfl | assumption) rfl rfl rfl rfl rfl ?_
    rintro _ _ _ _ ⟨rfl, rfl, rfl, rfl⟩
    rw [k8]
    refine hv_tin (off := 78) (tgt := 89) (i := 8) (v := 8) dX8_fillTell_11 (rfl) (by decide) (by decide) (by decide) (by decide) ?_
    refine hv_aload_n dX8_fillTell_89 rfl ?_
    refine hv_getr dX8_fillTell_90 fl_X8_22 (by first | rfl | assumption) rfl (by first | rfl | assumption) ?_
    refine hv_aload_n dX8_fillTell_93 rfl ?_
    refine hv_aload_n dX8_fillTell_94 rfl ?_
    refine hv_geti dX8_fillTell_95 fl_X8_26 (by first | rfl | assumption) rfl ?_
    refine hv_iconst (v := 1) dX8_fillTell_98 (by decide) ?_
    refine hv_iadd dX8_fillTell_99 ?_
    refine hv_sipush (v := 999) dX8_fillTell_100 (by decide) ?_
    rw [h4, nI_1]
    refine hv_cv2 (c_number2 (i := s + 1) (most := 999) ht (hrj (s + 1) (by omega) (by omega)) p2 (by decide) hs) dX8_fillTell_103 ml_X8_61 mk_X8_number (by first | rfl | assumption) rfl rfl rfl rfl rfl ?_
    rintro _ _ σ1 _ ⟨rfl, rfl, rfl, a1, a2, a3⟩
    refine hv_puti dX8_fillTell_106 fl_X8_65 (by first | rfl | assumption) rfl rfl rfl ?_
    refine hv_goto (tgt := 157) dX8_fillTell_109 (by decide) ?_
    refine hv_vret dX8_fillTell_157 rfl ?_
    refine ⟨rfl, rfl, rfl, off_up (off_wk a1 (by decide)) (by decide), fun j j1 j2 => by rw [hva_ne (by decide)]; exact a2 j j1 j2, ?_⟩
    by_cases z : 999 < vl f n (s + 1)
    · rw [if_pos z] at a3 ⊢
      exact tSt_of a3 (hva_ne (by decide))
    · rw [if_neg z] at a3 ⊢
      have e51 : va_up σ1 51 (upd (σ1 51) 10 (nI (vl f n (s + 1)))) 51 = upd (σ 51) 10 (nI (vl f n (s + 1))) := by rw [hup_eq, a1 51 (by decide)]
      have eo : ∀ c, c ∉ [8, 51] → va_up σ1 51 (upd (σ1 51) 10 (nI (vl f n (s + 1)))) c = σ c := off_up (off_wk a1 (by decide)) (by decide)
      refine ⟨tSt_of a3 (hva_ne (by decide)), ⟨?_, n2, ?_, n4, fun i hi => by rw [eo 9 (by decide)]; exact n5 i hi, fun i hi => by rw [eo 10 (by decide)]; exact n6 i hi⟩, ?_, c3, fun i hi => by rw [eo 52 (by decide), eo 53 (by decide), eo 54 (by decide), eo 55 (by decide), eo 56 (by decide)]; exact c4 i hi, fun i hi => by rw [eo 57 (by decide)]; exact c5 i hi, ?_, ?_, ?_⟩
      · rw [e51, pk_un (by decide)]; exact n1
      · rw [e51, pk_un (by decide)]; exact n3
      · rw [e51, pk_un (by decide)]; exact c2
      · rw [e51]; first | rw [pk_us]; rfl | rw [pk_un (by decide)]; exact c6
      · rw [e51]; first | rw [pk_us]; rfl | rw [pk_un (by decide)]; exact c7
      · rw [e51]; first | rw [pk_us]; rfl | rw [pk_un (by decide)]; exact c8
  by_cases k9 : kd f n s = 9
  · obtain ⟨p1, p2⟩ := t6 (by omega)
    rw [show smTell (kd f n) (vl f n) (dg f n) S s e = (if 100 < vl f n (s + 1) then .inl (5, s + 1) else .inr (S.1, S.2.1, S.2.2.1, S.2.2.2.1, (sSa S, vl f n (s + 1), sSe S))) by unfold smTell; rw [if_neg k0, if_neg k1, if_neg k2, if_neg k8, if_pos k9]]
    refine hv_aload_n dX8_fillTell_0 rfl ?_
    refine hv_getr dX8_fillTell_1 fl_X8_18 (by first | rfl | assumption) rfl (by first | rfl | assumption) ?_
    refine hv_aload_n dX8_fillTell_4 rfl ?_
    refine hv_geti dX8_fillTell_5 fl_X8_26 (by first | rfl | assumption) rfl ?_
    rw [h4]
    refine hv_cv1 (c_kind ht.2.2.2 hr) dX8_fillTell_8 ml_X8_35 mk_X9_kind (by first | rfl | assumption) rfl rfl rfl rfl rfl ?_
    rintro _ _ _ _ ⟨rfl, rfl, rfl, rfl⟩
    rw [k9]
    refine hv_tin (off := 101) (tgt := 112) (i := 9) (v := 9) dX8_fillTell_11 (rfl) (by decide) (by decide) (by decide) (by decide) ?_
    refine hv_aload_n dX8_fillTell_112 rfl ?_
    refine hv_getr dX8_fillTell_113 fl_X8_22 (by first | rfl | assumption) rfl (by first | rfl | assumption) ?_
    refine hv_aload_n dX8_fillTell_116 rfl ?_
    refine hv_aload_n dX8_fillTell_117 rfl ?_
    refine hv_geti dX8_fillTell_118 fl_X8_26 (by first | rfl | assumption) rfl ?_
    refine hv_iconst (v := 1) dX8_fillTell_121 (by decide) ?_
    refine hv_iadd dX8_fillTell_122 ?_
    refine hv_bipush (v := 100) dX8_fillTell_123 (by decide) ?_
    rw [h4, nI_1]
    refine hv_cv2 (c_number2 (i := s + 1) (most := 100) ht (hrj (s + 1) (by omega) (by omega)) p2 (by decide) hs) dX8_fillTell_125 ml_X8_61 mk_X8_number (by first | rfl | assumption) rfl rfl rfl rfl rfl ?_
    rintro _ _ σ1 _ ⟨rfl, rfl, rfl, a1, a2, a3⟩
    refine hv_puti dX8_fillTell_128 fl_X8_70 (by first | rfl | assumption) rfl rfl rfl ?_
    refine hv_goto (tgt := 157) dX8_fillTell_131 (by decide) ?_
    refine hv_vret dX8_fillTell_157 rfl ?_
    refine ⟨rfl, rfl, rfl, off_up (off_wk a1 (by decide)) (by decide), fun j j1 j2 => by rw [hva_ne (by decide)]; exact a2 j j1 j2, ?_⟩
    by_cases z : 100 < vl f n (s + 1)
    · rw [if_pos z] at a3 ⊢
      exact tSt_of a3 (hva_ne (by decide))
    · rw [if_neg z] at a3 ⊢
      have e51 : va_up σ1 51 (upd (σ1 51) 11 (nI (vl f n (s + 1)))) 51 = upd (σ 51) 11 (nI (vl f n (s + 1))) := by rw [hup_eq, a1 51 (by decide)]
      have eo : ∀ c, c ∉ [8, 51] → va_up σ1 51 (upd (σ1 51) 11 (nI (vl f n (s + 1)))) c = σ c := off_up (off_wk a1 (by decide)) (by decide)
      refine ⟨tSt_of a3 (hva_ne (by decide)), ⟨?_, n2, ?_, n4, fun i hi => by rw [eo 9 (by decide)]; exact n5 i hi, fun i hi => by rw [eo 10 (by decide)]; exact n6 i hi⟩, ?_, c3, fun i hi => by rw [eo 52 (by decide), eo 53 (by decide), eo 54 (by decide), eo 55 (by decide), eo 56 (by decide)]; exact c4 i hi, fun i hi => by rw [eo 57 (by decide)]; exact c5 i hi, ?_, ?_, ?_⟩
      · rw [e51, pk_un (by decide)]; exact n1
      · rw [e51, pk_un (by decide)]; exact n3
      · rw [e51, pk_un (by decide)]; exact c2
      · rw [e51]; first | rw [pk_us]; rfl | rw [pk_un (by decide)]; exact c6
      · rw [e51]; first | rw [pk_us]; rfl | rw [pk_un (by decide)]; exact c7
      · rw [e51]; first | rw [pk_us]; rfl | rw [pk_un (by decide)]; exact c8
  by_cases k10 : kd f n s = 10
  · obtain ⟨p1, p2⟩ := t6 (by omega)
    rw [show smTell (kd f n) (vl f n) (dg f n) S s e = (if 9999 < vl f n (s + 1) then .inl (5, s + 1) else .inr (S.1, S.2.1, S.2.2.1, S.2.2.2.1, (sSa S, sOd S, vl f n (s + 1)))) by unfold smTell; rw [if_neg k0, if_neg k1, if_neg k2, if_neg k8, if_neg k9, if_pos k10]]
    refine hv_aload_n dX8_fillTell_0 rfl ?_
    refine hv_getr dX8_fillTell_1 fl_X8_18 (by first | rfl | assumption) rfl (by first | rfl | assumption) ?_
    refine hv_aload_n dX8_fillTell_4 rfl ?_
    refine hv_geti dX8_fillTell_5 fl_X8_26 (by first | rfl | assumption) rfl ?_
    rw [h4]
    refine hv_cv1 (c_kind ht.2.2.2 hr) dX8_fillTell_8 ml_X8_35 mk_X9_kind (by first | rfl | assumption) rfl rfl rfl rfl rfl ?_
    rintro _ _ _ _ ⟨rfl, rfl, rfl, rfl⟩
    rw [k10]
    refine hv_tin (off := 123) (tgt := 134) (i := 10) (v := 10) dX8_fillTell_11 (rfl) (by decide) (by decide) (by decide) (by decide) ?_
    refine hv_aload_n dX8_fillTell_134 rfl ?_
    refine hv_getr dX8_fillTell_135 fl_X8_22 (by first | rfl | assumption) rfl (by first | rfl | assumption) ?_
    refine hv_aload_n dX8_fillTell_138 rfl ?_
    refine hv_aload_n dX8_fillTell_139 rfl ?_
    refine hv_geti dX8_fillTell_140 fl_X8_26 (by first | rfl | assumption) rfl ?_
    refine hv_iconst (v := 1) dX8_fillTell_143 (by decide) ?_
    refine hv_iadd dX8_fillTell_144 ?_
    refine hv_sipush (v := 9999) dX8_fillTell_145 (by decide) ?_
    rw [h4, nI_1]
    refine hv_cv2 (c_number2 (i := s + 1) (most := 9999) ht (hrj (s + 1) (by omega) (by omega)) p2 (by decide) hs) dX8_fillTell_148 ml_X8_61 mk_X8_number (by first | rfl | assumption) rfl rfl rfl rfl rfl ?_
    rintro _ _ σ1 _ ⟨rfl, rfl, rfl, a1, a2, a3⟩
    refine hv_puti dX8_fillTell_151 fl_X8_73 (by first | rfl | assumption) rfl rfl rfl ?_
    refine hv_goto (tgt := 157) dX8_fillTell_154 (by decide) ?_
    refine hv_vret dX8_fillTell_157 rfl ?_
    refine ⟨rfl, rfl, rfl, off_up (off_wk a1 (by decide)) (by decide), fun j j1 j2 => by rw [hva_ne (by decide)]; exact a2 j j1 j2, ?_⟩
    by_cases z : 9999 < vl f n (s + 1)
    · rw [if_pos z] at a3 ⊢
      exact tSt_of a3 (hva_ne (by decide))
    · rw [if_neg z] at a3 ⊢
      have e51 : va_up σ1 51 (upd (σ1 51) 12 (nI (vl f n (s + 1)))) 51 = upd (σ 51) 12 (nI (vl f n (s + 1))) := by rw [hup_eq, a1 51 (by decide)]
      have eo : ∀ c, c ∉ [8, 51] → va_up σ1 51 (upd (σ1 51) 12 (nI (vl f n (s + 1)))) c = σ c := off_up (off_wk a1 (by decide)) (by decide)
      refine ⟨tSt_of a3 (hva_ne (by decide)), ⟨?_, n2, ?_, n4, fun i hi => by rw [eo 9 (by decide)]; exact n5 i hi, fun i hi => by rw [eo 10 (by decide)]; exact n6 i hi⟩, ?_, c3, fun i hi => by rw [eo 52 (by decide), eo 53 (by decide), eo 54 (by decide), eo 55 (by decide), eo 56 (by decide)]; exact c4 i hi, fun i hi => by rw [eo 57 (by decide)]; exact c5 i hi, ?_, ?_, ?_⟩
      · rw [e51, pk_un (by decide)]; exact n1
      · rw [e51, pk_un (by decide)]; exact n3
      · rw [e51, pk_un (by decide)]; exact c2
      · rw [e51]; first | rw [pk_us]; rfl | rw [pk_un (by decide)]; exact c6
      · rw [e51]; first | rw [pk_us]; rfl | rw [pk_un (by decide)]; exact c7
      · rw [e51]; first | rw [pk_us]; rfl | rw [pk_un (by decide)]; exact c8
  rw [show smTell (kd f n) (vl f n) (dg f n) S s e = .inr S by unfold smTell; rw [if_neg k0, if_neg k1, if_neg k2, if_neg k8, if_neg k9, if_neg k10]]
  rcases (show kd f n s = 3 ∨ kd f n s = 4 ∨ kd f n s = 5 ∨ kd f n s = 6 ∨ kd f n s = 7 by omega) with q | q | q | q | q
  · skip
    refine hv_aload_n dX8_fillTell_0 rfl ?_
    refine hv_getr dX8_fillTell_1 fl_X8_18 (by first | rfl | assumption) rfl (by first | rfl | assumption) ?_
    refine hv_aload_n dX8_fillTell_4 rfl ?_
    refine hv_geti dX8_fillTell_5 fl_X8_26 (by first | rfl | assumption) rfl ?_
    rw [h4]
    refine hv_cv1 (c_kind ht.2.2.2 hr) dX8_fillTell_8 ml_X8_35 mk_X9_kind (by first | rfl | assumption) rfl rfl rfl rfl rfl ?_
    rintro _ _ _ _ ⟨rfl, rfl, rfl, rfl⟩
    rw [q]
    refine hv_tin (off := 146) (tgt := 157) (i := 3) (v := 3) dX8_fillTell_11 (rfl) (by decide) (by decide) (by decide) (by decide) ?_
    refine hv_vret dX8_fillTell_157 rfl ?_
    exact ⟨rfl, rfl, rfl, fun _ _ => rfl, k8_rf, hs, hcc⟩
  · skip
    refine hv_aload_n dX8_fillTell_0 rfl ?_
    refine hv_getr dX8_fillTell_1 fl_X8_18 (by first | rfl | assumption) rfl (by first | rfl | assumption) ?_
    refine hv_aload_n dX8_fillTell_4 rfl ?_
    refine hv_geti dX8_fillTell_5 fl_X8_26 (by first | rfl | assumption) rfl ?_
    rw [h4]
    refine hv_cv1 (c_kind ht.2.2.2 hr) dX8_fillTell_8 ml_X8_35 mk_X9_kind (by first | rfl | assumption) rfl rfl rfl rfl rfl ?_
    rintro _ _ _ _ ⟨rfl, rfl, rfl, rfl⟩
    rw [q]
    refine hv_tin (off := 146) (tgt := 157) (i := 4) (v := 4) dX8_fillTell_11 (rfl) (by decide) (by decide) (by decide) (by decide) ?_
    refine hv_vret dX8_fillTell_157 rfl ?_
    exact ⟨rfl, rfl, rfl, fun _ _ => rfl, k8_rf, hs, hcc⟩
  · skip
    refine hv_aload_n dX8_fillTell_0 rfl ?_
    refine hv_getr dX8_fillTell_1 fl_X8_18 (by first | rfl | assumption) rfl (by first | rfl | assumption) ?_
    refine hv_aload_n dX8_fillTell_4 rfl ?_
    refine hv_geti dX8_fillTell_5 fl_X8_26 (by first | rfl | assumption) rfl ?_
    rw [h4]
    refine hv_cv1 (c_kind ht.2.2.2 hr) dX8_fillTell_8 ml_X8_35 mk_X9_kind (by first | rfl | assumption) rfl rfl rfl rfl rfl ?_
    rintro _ _ _ _ ⟨rfl, rfl, rfl, rfl⟩
    rw [q]
    refine hv_tin (off := 146) (tgt := 157) (i := 5) (v := 5) dX8_fillTell_11 (rfl) (by decide) (by decide) (by decide) (by decide) ?_
    refine hv_vret dX8_fillTell_157 rfl ?_
    exact ⟨rfl, rfl, rfl, fun _ _ => rfl, k8_rf, hs, hcc⟩
  · skip
    refine hv_aload_n dX8_fillTell_0 rfl ?_
    refine hv_getr dX8_fillTell_1 fl_X8_18 (by first | rfl | assumption) rfl (by first | rfl | assumption) ?_
    refine hv_aload_n dX8_fillTell_4 rfl ?_
    refine hv_geti dX8_fillTell_5 fl_X8_26 (by first | rfl | assumption) rfl ?_
    rw [h4]
    refine hv_cv1 (c_kind ht.2.2.2 hr) dX8_fillTell_8 ml_X8_35 mk_X9_kind (by first | rfl | assumption) rfl rfl rfl rfl rfl ?_
    rintro _ _ _ _ ⟨rfl, rfl, rfl, rfl⟩
    rw [q]
    refine hv_tin (off := 146) (tgt := 157) (i := 6) (v := 6) dX8_fillTell_11 (rfl) (by decide) (by decide) (by decide) (by decide) ?_
    refine hv_vret dX8_fillTell_157 rfl ?_
    exact ⟨rfl, rfl, rfl, fun _ _ => rfl, k8_rf, hs, hcc⟩
  · skip
    refine hv_aload_n dX8_fillTell_0 rfl ?_
    refine hv_getr dX8_fillTell_1 fl_X8_18 (by first | rfl | assumption) rfl (by first | rfl | assumption) ?_
    refine hv_aload_n dX8_fillTell_4 rfl ?_
    refine hv_geti dX8_fillTell_5 fl_X8_26 (by first | rfl | assumption) rfl ?_
    rw [h4]
    refine hv_cv1 (c_kind ht.2.2.2 hr) dX8_fillTell_8 ml_X8_35 mk_X9_kind (by first | rfl | assumption) rfl rfl rfl rfl rfl ?_
    rintro _ _ _ _ ⟨rfl, rfl, rfl, rfl⟩
    rw [q]
    refine hv_tin (off := 146) (tgt := 157) (i := 7) (v := 7) dX8_fillTell_11 (rfl) (by decide) (by decide) (by decide) (by decide) ?_
    refine hv_vret dX8_fillTell_157 rfl ?_
    exact ⟨rfl, rfl, rfl, fun _ _ => rfl, k8_rf, hs, hcc⟩
theorem semX_s (K V D : Nat → Nat) (k s h r m : Nat) (S : hSm) : semX K V D (k + 1) s h r m S = if K s = 25 then .inr S else match tellX K V h r m s with
    | .inl _ => .inr S
    | .inr (e, _) => match smTell K V D S s e with
      | .inl x => .inl x
      | .inr S' => semX K V D k e (cnt K 0 h s) (cnt K 1 r s) (cnt K 2 m s) S' := rfl
theorem tell_room {K V : Nat → Nat} {h r m s e : Nat} {l : Option (Nat × hLw)} (q : tellX K V h r m s = .inr (e, l)) : (K s = 0 → h < 7) ∧ (K s = 1 → r < 16) ∧ (K s = 2 → m < 5) := by
  unfold tellX at q
  refine ⟨fun k => ?_, fun k => ?_, fun k => ?_⟩
  · rw [if_pos k] at q
    split at q
    · cases q
    · omega
  · rw [if_neg (by omega), if_pos k] at q
    split at q
    · cases q
    · omega
  · rw [if_neg (by omega), if_neg (by omega), if_pos k] at q
    split at q
    · cases q
    · omega
theorem c_fill {f : hF} {n : Nat} {L0 : hLs} {a9 h9 r9 m9 : Nat} {L9 : hLs} (ht : tlC f n σ) (hc : clsS f n sm0 σ) (hT : textX (kd f n) (vl f n) 401 0 0 0 0 L0 = .inr (a9, (h9, r9, m9, L9))) : hCal G (m_X8_fill (fun v' r' σ' τ' => v' = none ∧ r' = rr 38 51 x (some 51) ∧ τ' = τ ∧ (∀ c, c ∉ xTl → σ' c = σ c) ∧ match semX (kd f n) (vl f n) (dg f n) 401 0 0 0 0 sm0 with
    | .inl e => tSt (some e) σ'
    | .inr S => tSt none σ' ∧ clsS f n S σ' ∧ okS S)) [.ref (hgA G 8), .ref (hgA G 51)] shp (rr 38 51 x y) σ τ := by
  refine hv_enter pn_X8 rfl ?_
  have loop : ∀ k i s h r m (L : hLs) (S : hSm) R (σ1 : hS), i + k = 401 → (∀ c, c ∉ xTl → σ1 c = σ c) → tlC f n σ1 → rel f n s → σ1 8 4 = nI s → tSt none σ1 → clsS f n S σ1 → okS S → sH S = h → sR S = r → sM S = m → textX (kd f n) (vl f n) k s h r m L = .inr (a9, (h9, r9, m9, L9)) → semX (kd f n) (vl f n) (dg f n) k s h r m S = R → hV G (m_X8_fill (fun v' r' σ' τ' => v' = none ∧ r' = rr 38 51 x (some 51) ∧ τ' = τ ∧ (∀ c, c ∉ xTl → σ' c = σ c) ∧ match R with
    | .inl e => tSt (some e) σ'
    | .inr S => tSt none σ' ∧ clsS f n S σ' ∧ okS S)) 0 0 shp 17 [some (.ref (hgA G 8)), some (.ref (hgA G 51)), some (.int (nI i))] [] (rr 38 51 x (some 51)) σ1 τ := by
    intro k
    induction k with
    | zero =>
      intro i s h r m L S R σ1 hi hσ t1 hr h4 hs hc ho e1 e2 e3 hT hR
      obtain rfl : i = 401 := by omega
      refine hv_iload_n dX8_fill_17 rfl ?_
      refine hv_sipush (v := 400) dX8_fill_18 (by decide) ?_
      refine hv_icmp_gt (tgt := 61) dX8_fill_21 (by decide) (fun c_21 => ?_) (fun c_21 => absurd ((by decide)) c_21)
      refine hv_vret dX8_fill_61 rfl ?_
      rw [← hR]; exact ⟨rfl, rfl, rfl, hσ, hs, hc, ho⟩
    | succ k ih =>
      intro i s h r m L S R σ1 hi hσ t1 hr h4 hs hc ho e1 e2 e3 hT hR
      have hkl := kd_le f n s
      rw [semX_s] at hR
      rw [textX_s] at hT
      by_cases c25 : kd f n s = 25
      · rw [if_pos c25] at hR
        refine hv_iload_n dX8_fill_17 rfl ?_
        refine hv_sipush (v := 400) dX8_fill_18 (by decide) ?_
        refine hv_icmp_gt (tgt := 61) dX8_fill_21 (by decide) (fun c_21 => absurd c_21 ((nI_nlt (a := 400) (by omega) (by decide)))) (fun c_21 => ?_)
        refine hv_aload_n dX8_fill_24 rfl ?_
        refine hv_geti dX8_fill_25 fl_X8_30 (by first | rfl | assumption) rfl ?_
        refine hv_if_ne (tgt := 61) dX8_fill_28 (by decide) (fun c_28 => absurd (hs) c_28) (fun c_28 => ?_)
        refine hv_aload_n dX8_fill_31 rfl ?_
        refine hv_getr dX8_fill_32 fl_X8_18 (by first | rfl | assumption) rfl (by first | rfl | assumption) ?_
        refine hv_aload_n dX8_fill_35 rfl ?_
        refine hv_geti dX8_fill_36 fl_X8_26 (by first | rfl | assumption) rfl ?_
        rw [h4]
        refine hv_cv1 (c_kind t1.2.2.2 hr) dX8_fill_39 ml_X8_35 mk_X9_kind (by first | rfl | assumption) rfl rfl rfl rfl rfl ?_
        rintro _ _ _ _ ⟨rfl, rfl, rfl, rfl⟩
        rw [c25]
        refine hv_bipush (v := 25) dX8_fill_42 (by decide) ?_
        refine hv_icmp_eq (tgt := 61) dX8_fill_44 (by decide) (fun c_44 => ?_) (fun c_44 => absurd (rfl) c_44)
        refine hv_vret dX8_fill_61 rfl ?_
        rw [← hR]; exact ⟨rfl, rfl, rfl, hσ, hs, hc, ho⟩
      · rw [if_neg c25] at hR hT
        obtain ⟨e, l, hX, hT2⟩ := bd_iff.mp hT
        rw [hX] at hR
        dsimp only at hR
        have hok := tellX_ok (kd f n) (vl f n) h r m s hr.1
        rw [hX] at hok
        obtain ⟨o1, o2, o3, o4⟩ := hok
        obtain ⟨z1, z2, z3⟩ := tell_room hX
        refine hv_iload_n dX8_fill_17 rfl ?_
        refine hv_sipush (v := 400) dX8_fill_18 (by decide) ?_
        refine hv_icmp_gt (tgt := 61) dX8_fill_21 (by decide) (fun c_21 => absurd c_21 ((nI_nlt (a := 400) (by omega) (by decide)))) (fun c_21 => ?_)
        refine hv_aload_n dX8_fill_24 rfl ?_
        refine hv_geti dX8_fill_25 fl_X8_30 (by first | rfl | assumption) rfl ?_
        refine hv_if_ne (tgt := 61) dX8_fill_28 (by decide) (fun c_28 => absurd (hs) c_28) (fun c_28 => ?_)
        refine hv_aload_n dX8_fill_31 rfl ?_
        refine hv_getr dX8_fill_32 fl_X8_18 (by first | rfl | assumption) rfl (by first | rfl | assumption) ?_
        refine hv_aload_n dX8_fill_35 rfl ?_
        refine hv_geti dX8_fill_36 fl_X8_26 (by first | rfl | assumption) rfl ?_
        rw [h4]
        refine hv_cv1 (c_kind t1.2.2.2 hr) dX8_fill_39 ml_X8_35 mk_X9_kind (by first | rfl | assumption) rfl rfl rfl rfl rfl ?_
        rintro _ _ _ _ ⟨rfl, rfl, rfl, rfl⟩
        refine hv_bipush (v := 25) dX8_fill_42 (by decide) ?_
        refine hv_icmp_eq (tgt := 61) dX8_fill_44 (by decide) (fun c_44 => absurd c_44 ((fun q => c25 ((nI_eq (b := 25) (by omega) (by decide)).mp q)))) (fun c_44 => ?_)
        refine hv_aload_n dX8_fill_47 rfl ?_
        refine hv_cv0 (c_fillTell (S := S) (e := e) t1 hc ho (fun q => by rw [e1]; exact z1 q) (fun q => by rw [e2]; exact z2 q) (fun q => by rw [e3]; exact z3 q) h4 hs hr o2 o4) dX8_fill_48 ml_X8_39 mk_X8_fillTell (by first | rfl | assumption) rfl rfl rfl rfl rfl ?_
        rintro _ _ σ2 _ ⟨rfl, rfl, rfl, a1, a2, a3⟩
        have t2 := tlC_of t1 a1 rfl
        refine hv_aload_n dX8_fill_51 rfl ?_
        refine hv_cv0 (c_skipTell (s := s) (e := e) t2 hr o2 o4.2.1 (by rw [a2 4 (by decide) (by decide)]; exact h4)) dX8_fill_52 ml_X8_42 mk_X8_skipTell (by first | rfl | assumption) rfl rfl rfl rfl rfl ?_
        rintro _ _ σ3 _ ⟨rfl, rfl, rfl, b1, b2⟩
        have t3 := tlC_of t2 b1 rfl
        have g4 : σ3 8 4 = nI e := by rw [b2, pk_us]
        have gs : ∀ o, tSt o σ2 → tSt o σ3 := fun o q => by
          rcases o with _ | ⟨kk, tt⟩
          · show σ3 8 5 = 0; rw [b2, pk_un (by decide)]; exact q
          · exact ⟨by rw [b2, pk_un (by decide)]; exact q.1, q.2.1, by rw [b2, pk_un (by decide)]; exact q.2.2⟩
        have gσ : ∀ c, c ∉ xTl → σ3 c = σ c := off_tr (off_tr hσ a1 (Z := xTl) (by decide) (by decide)) b1 (by decide) (by decide)
        refine hv_iinc dX8_fill_55 rfl (nI_1 i) rfl rfl ?_
        refine hv_goto (tgt := 17) dX8_fill_58 (by decide) ?_
        rcases hsm : smTell (kd f n) (vl f n) (dg f n) S s e with ee | S'
        · rw [hsm] at a3 hR
          have a4 : tSt (some ee) σ2 := a3
          have a5 := gs _ a4
          dsimp only at hR
          subst hR
          obtain ⟨v1, v2, v3⟩ := a5
          refine hv_iload_n dX8_fill_17 rfl ?_
          refine hv_sipush (v := 400) dX8_fill_18 (by decide) ?_
          refine hv_icmp_gt (tgt := 61) dX8_fill_21 (by decide) (fun c_21 => ?_) (fun c_21 => ?_)
          · refine hv_vret dX8_fill_61 rfl ?_
            exact ⟨rfl, rfl, rfl, gσ, v1, v2, v3⟩
          · refine hv_aload_n dX8_fill_24 rfl ?_
            refine hv_geti dX8_fill_25 fl_X8_30 (by first | rfl | assumption) rfl ?_
            refine hv_if_ne (tgt := 61) dX8_fill_28 (by decide) (fun c_28 => ?_) (fun c_28 => absurd c_28 ((by rw [v1]; exact nI_ne0 (by omega) (by omega))))
            refine hv_vret dX8_fill_61 rfl ?_
            exact ⟨rfl, rfl, rfl, gσ, v1, v2, v3⟩
        · rw [hsm] at a3 hR
          obtain ⟨a4, a5⟩ : tSt none σ2 ∧ clsS f n S' σ2 := a3
          dsimp only at hR
          obtain ⟨w1, w2, w3, w4⟩ := smTell_ok ho (fun q => by rw [e1]; exact z1 q) (fun q => by rw [e2]; exact z2 q) (fun q => by rw [e3]; exact z3 q) hsm
          exact ih (i + 1) e _ _ _ _ S' R σ3 (by omega) gσ t3 (rel_up hr o2 o4.2.1 (Nat.le_refl _) o1) g4 (gs _ a4) (clsS_of a5 b1) w1 (by rw [w2, e1]) (by rw [w3, e2]) (by rw [w4, e3]) hT2 hR
  refine hv_aload_n dX8_fill_0 rfl ?_
  refine hv_aload_n dX8_fill_1 rfl ?_
  refine hv_putr dX8_fill_2 fl_X8_22 (by first | rfl | assumption) rfl rfl rfl ?_
  rw [rr_py]
  refine hv_aload_n dX8_fill_5 rfl ?_
  refine hv_iconst (v := 0) dX8_fill_6 (by decide) ?_
  refine hv_puti dX8_fill_7 fl_X8_26 (by first | rfl | assumption) rfl rfl rfl ?_
  refine hv_aload_n dX8_fill_10 rfl ?_
  refine hv_iconst (v := 0) dX8_fill_11 (by decide) ?_
  refine hv_puti dX8_fill_12 fl_X8_30 (by first | rfl | assumption) rfl rfl rfl ?_
  refine hv_iconst (v := 0) dX8_fill_15 (by decide) ?_
  refine hv_istore_n dX8_fill_16 rfl rfl ?_
  simp only [hup_up, hup_eq]
  have o1 : ∀ c, c ∉ [8] → va_up σ 8 (upd (upd (σ 8) 4 0) 5 0) c = σ c := off_up (fun _ _ => rfl) (by decide)
  refine loop 401 0 0 0 0 0 L0 sm0 _ _ rfl (off_wk o1 (by decide)) (tlC_of ht o1 rfl) ⟨by omega, fun j hj => absurd hj (by omega)⟩ ?_ ?_ (clsS_of hc o1) ⟨by decide, by decide, by decide, fun i hi => absurd hi (by show ¬ i < 0; omega), fun i hi => absurd hi (by show ¬ i < 0; omega), by decide, by decide, by decide⟩ rfl rfl rfl hT rfl
  · rw [hup_eq, pk_un (by decide), pk_us]; rfl
  · show va_up σ 8 (upd (upd (σ 8) 4 0) 5 0) 8 5 = 0
    rw [hup_eq, pk_us]
end S86

