theorem rr_py {t d : Nat} {x y : Option Nat} {z : Nat} : va_up (rr t d x y) 8 (va_up (rr t d x y 8) 3 (some z)) = rr t d x (some z) := by
  funext k j
  unfold va_up
  by_cases h : k = 8
  · subst h
    rw [if_pos rfl]
    by_cases h2 : j = 3
    · subst h2; rfl
    · rw [if_neg h2]
      match j, h2 with
      | 0, _ => rfl
      | 1, _ => rfl
      | 2, _ => rfl
      | 3, h2 => exact absurd rfl h2
      | j + 4, _ => rfl
  · rw [if_neg h]
    have e : hrt t d x (some z) = (hrt t d x y).set 8 [some 3, some 9, some 10, some z] := rfl
    unfold rr
    rw [e, List.getD_eq_getElem?_getD (l := hrt t d x y), List.getD_eq_getElem?_getD (l := (hrt t d x y).set 8 [some 3, some 9, some 10, some z]), List.getElem?_set_ne (by omega)]
theorem rel_up {f : hF} {n s e j : Nat} (hr : rel f n s) (he : e ≤ 400) (hu : upT (kd f n) s e) (hj : j ≤ e) (hs : s ≤ j) : rel f n j := by
  obtain ⟨u1, u2, u3⟩ := hu
  refine ⟨by omega, fun i hi => ?_⟩
  by_cases c : i < s
  · exact hr.2 i c
  · by_cases c2 : i < e - 1
    · exact ⟨(u3 i (by omega) c2).1, (u3 i (by omega) c2).2.1⟩
    · rw [show i = e - 1 by omega, u2]; decide
section S85
variable {G : hGl} {σ : hS} {τ : hT} {x y : Option Nat}
theorem oN_lt {p : Option Nat} (hp : ∀ j, p = some j → j < 7) : (oN p = -1 ↔ p = none) := by
  cases p with
  | none => exact ⟨fun _ => rfl, fun _ => rfl⟩
  | some j => exact ⟨fun q => absurd (show nI j < 0 by rw [show nI j = -1 from q]; decide) (nI_pos (by have := hp j rfl; omega)), fun q => nomatch q⟩
theorem c_fillHearing {f : hF} {n s : Nat} {S : hSm} (ht : tlC f n σ) (hc : clsS f n S σ) (ho : okS S) (hrr : sR S < 16) (h4 : σ 8 4 = nI s) (hs : tSt none σ) (hr : ∀ j, s ≤ j → j ≤ s + 2 → rel f n j) (hk : kd f n (s + 1) = 23 ∧ kd f n (s + 2) = 23) : hCal G (m_X8_fillHearing (hQp xTl none (rr 38 51 x (some 51)) σ τ (fun σ' => k8 σ σ' ∧ pSm f n (smHears (dg f n) S s) σ'))) [.ref (hgA G 8)] shp (rr 38 51 x (some 51)) σ τ := by
  have hcc := hc
  obtain ⟨⟨n1, n2, n3, n4, n5, n6⟩, c2, c3, c4, c5, c6, c7, c8⟩ := hc
  have hr2 := (hr (s + 2) (by omega) (by omega)).1
  obtain ⟨fa, hfa⟩ : ∃ fa, fnd (dg f n) (sHn S) (dg f n (s + 1)) (sH S) = fa := ⟨_, rfl⟩
  obtain ⟨fb, hfb⟩ : ∃ fb, fnd (dg f n) (sHn S) (dg f n (s + 2)) (sH S) = fb := ⟨_, rfl⟩
  have la : ∀ j, fa = some j → j < sH S := fun j q => by rw [q] at hfa; exact (fnd_lt _ j hfa).1
  have lb : ∀ j, fb = some j → j < sH S := fun j q => by rw [q] at hfb; exact (fnd_lt _ j hfb).1
  have hp7 := pow_le7 n2
  unfold smHears
  rw [hfa, hfb]
  refine hv_enter pn_X8 rfl ?_
  cases fa with
  | none =>
    refine hv_aload_n dX8_fillHearing_0 rfl ?_
    refine hv_aload_n dX8_fillHearing_1 rfl ?_
    refine hv_geti dX8_fillHearing_2 fl_X8_26 (by first | rfl | assumption) rfl ?_
    refine hv_iconst (v := 1) dX8_fillHearing_5 (by decide) ?_
    refine hv_iadd dX8_fillHearing_6 ?_
    rw [h4, nI_1]
    refine hv_cv1 (c_knownHouse (S := S) ht hcc.1 (hr (s + 1) (by omega) (by omega)) hk.1 hs) dX8_fillHearing_7 ml_X8_115 mk_X8_knownHouse (by first | rfl | assumption) rfl rfl rfl rfl rfl ?_
    rw [hfa]
    rintro _ _ σ1 _ ⟨rfl, rfl, rfl, a1, a2, a3⟩
    have e1 : σ1 8 4 = nI s := by rw [a2 4 (by decide) (by decide)]; exact h4
    refine hv_istore_n dX8_fillHearing_10 rfl rfl ?_
    refine hv_aload_n dX8_fillHearing_11 rfl ?_
    refine hv_aload_n dX8_fillHearing_12 rfl ?_
    refine hv_geti dX8_fillHearing_13 fl_X8_26 (by first | rfl | assumption) rfl ?_
    refine hv_iconst (v := 2) dX8_fillHearing_16 (by decide) ?_
    refine hv_iadd dX8_fillHearing_17 ?_
    rw [e1, show nI s + 2 = nI (s + 2) from nI_add s 2]
    refine hv_cv1 (c_knownHouse (S := S) (tlC_of ht a1 rfl) (nmC_of hcc.1 (a1 51 (by decide)) (a1 9 (by decide)) (a1 10 (by decide))) (hr (s + 2) (by omega) (by omega)) hk.2 a3) dX8_fillHearing_18 ml_X8_115 mk_X8_knownHouse (by first | rfl | assumption) rfl rfl rfl rfl rfl ?_
    rw [hfb]
    rintro _ _ σ2 _ ⟨rfl, rfl, rfl, b1, b2, b3⟩
    refine hv_istore_n dX8_fillHearing_21 rfl rfl ?_
    refine hv_iload_n dX8_fillHearing_22 rfl ?_
    refine hv_iconst (v := -1) dX8_fillHearing_23 (by decide) ?_
    refine hv_icmp_eq (tgt := 32) dX8_fillHearing_24 (by decide) (fun c_24 => ?_) (fun c_24 => absurd (rfl) c_24)
    refine hv_vret dX8_fillHearing_32 rfl ?_
    refine ⟨rfl, rfl, rfl, off_tr a1 b1 (by decide) (by decide), k8_tr a2 b2, ?_⟩
    simp only [Option.isSome, orE, ite_self, if_false, Bool.false_eq_true] at b3
    exact b3
  | some a =>
    have ha := la a rfl
    cases fb with
    | none =>
      refine hv_aload_n dX8_fillHearing_0 rfl ?_
      refine hv_aload_n dX8_fillHearing_1 rfl ?_
      refine hv_geti dX8_fillHearing_2 fl_X8_26 (by first | rfl | assumption) rfl ?_
      refine hv_iconst (v := 1) dX8_fillHearing_5 (by decide) ?_
      refine hv_iadd dX8_fillHearing_6 ?_
      rw [h4, nI_1]
      refine hv_cv1 (c_knownHouse (S := S) ht hcc.1 (hr (s + 1) (by omega) (by omega)) hk.1 hs) dX8_fillHearing_7 ml_X8_115 mk_X8_knownHouse (by first | rfl | assumption) rfl rfl rfl rfl rfl ?_
      rw [hfa]
      rintro _ _ σ1 _ ⟨rfl, rfl, rfl, a1, a2, a3⟩
      have e1 : σ1 8 4 = nI s := by rw [a2 4 (by decide) (by decide)]; exact h4
      refine hv_istore_n dX8_fillHearing_10 rfl rfl ?_
      refine hv_aload_n dX8_fillHearing_11 rfl ?_
      refine hv_aload_n dX8_fillHearing_12 rfl ?_
      refine hv_geti dX8_fillHearing_13 fl_X8_26 (by first | rfl | assumption) rfl ?_
      refine hv_iconst (v := 2) dX8_fillHearing_16 (by decide) ?_
      refine hv_iadd dX8_fillHearing_17 ?_
      rw [e1, show nI s + 2 = nI (s + 2) from nI_add s 2]
      refine hv_cv1 (c_knownHouse (S := S) (tlC_of ht a1 rfl) (nmC_of hcc.1 (a1 51 (by decide)) (a1 9 (by decide)) (a1 10 (by decide))) (hr (s + 2) (by omega) (by omega)) hk.2 a3) dX8_fillHearing_18 ml_X8_115 mk_X8_knownHouse (by first | rfl | assumption) rfl rfl rfl rfl rfl ?_
      rw [hfb]
      rintro _ _ σ2 _ ⟨rfl, rfl, rfl, b1, b2, b3⟩
      refine hv_istore_n dX8_fillHearing_21 rfl rfl ?_
      refine hv_iload_n dX8_fillHearing_22 rfl ?_
      refine hv_iconst (v := -1) dX8_fillHearing_23 (by decide) ?_
      refine hv_icmp_eq (tgt := 32) dX8_fillHearing_24 (by decide) (fun c_24 => absurd c_24 ((show ¬ nI a = -1 from fun q => nI_pos (n := a) (by omega) (by rw [q]; decide)))) (fun c_24 => ?_)
      refine hv_iload_n dX8_fillHearing_27 rfl ?_
      refine hv_iconst (v := -1) dX8_fillHearing_28 (by decide) ?_
      refine hv_icmp_ne (tgt := 33) dX8_fillHearing_29 (by decide) (fun c_29 => absurd (rfl) c_29) (fun c_29 => ?_)
      refine hv_vret dX8_fillHearing_32 rfl ?_
      exact ⟨rfl, rfl, rfl, off_tr a1 b1 (by decide) (by decide), k8_tr a2 b2, b3⟩
    | some b =>
      have hb := lb b rfl
      have hp5 := (ho.2.2.2.1 a ha).2.2.2.2
      have hpb := pow_lt7 (i := b) (by omega)
      obtain ⟨m, hm⟩ : ∃ m, sHe S a = m := ⟨_, rfl⟩
      rw [hm] at hp5
      have he := (c4 a ha).2.2.2.2
      rw [hm] at he
      dsimp only
      have tail : ∀ (σ2 : hS) (R : Sum (Nat × Nat) hSm), (∀ c, c ∉ [8] → σ2 c = σ c) → k8 σ σ2 → (∀ σ' : hS, σ' 8 = σ2 8 → (∀ c, c ∉ [51, 56] → σ' c = σ2 c) → σ' 51 = upd (σ 51) 8 (nI (sR S + 1)) → σ' 56 = upd (σ 56) a (nI (m ||| 2 ^ b)) → pSm f n R σ') → hV G (m_X8_fillHearing (hQp xTl none (rr 38 51 x (some 51)) σ τ (fun σ' => k8 σ σ' ∧ pSm f n R σ'))) 0 0 shp 67 [some (.ref (hgA G 8)), some (.int (nI a)), some (.int (nI b)), some (.int (nI (2 ^ b)))] [] (rr 38 51 x (some 51)) σ2 τ := by
        intro σ2 R o2 k2 hq
        refine hv_aload_n dX8_fillHearing_67 rfl ?_
        refine hv_getr dX8_fillHearing_68 fl_X8_22 (by first | rfl | assumption) rfl (by first | rfl | assumption) ?_
        refine hv_getr dX8_fillHearing_71 fl_X8_102 (by first | rfl | assumption) rfl (by first | rfl | assumption) ?_
        refine hv_iload_n dX8_fillHearing_74 rfl ?_
        refine hv_dup2 dX8_fillHearing_75 rfl rfl ?_
        refine hv_iald dX8_fillHearing_76 (by first | rfl | assumption) (j := a) rfl (by omega) (by first | decide | assumption) ?_
        refine hv_iload_n dX8_fillHearing_77 rfl ?_
        rw [o2 56 (by decide), he]
        refine hv_ior dX8_fillHearing_78 ?_
        rw [b_or (by omega) (by omega)]
        refine hv_iast dX8_fillHearing_79 (by first | rfl | assumption) (j := a) rfl (by omega) (by first | decide | assumption) ?_
        refine hv_aload_n dX8_fillHearing_80 rfl ?_
        refine hv_getr dX8_fillHearing_81 fl_X8_22 (by first | rfl | assumption) rfl (by first | rfl | assumption) ?_
        refine hv_dup dX8_fillHearing_84 rfl ?_
        refine hv_geti dX8_fillHearing_85 fl_X8_118 (by first | rfl | assumption) rfl ?_
        rw [hva_ne (show 51 ≠ 56 by decide), o2 51 (by decide), c2]
        refine hv_iconst (v := 1) dX8_fillHearing_88 (by decide) ?_
        refine hv_iadd dX8_fillHearing_89 ?_
        rw [nI_1]
        refine hv_puti dX8_fillHearing_90 fl_X8_118 (by first | rfl | assumption) rfl rfl rfl ?_
        refine hv_vret dX8_fillHearing_93 rfl ?_
        refine ⟨rfl, rfl, rfl, off_up (off_up (off_wk o2 (by decide)) (by decide)) (by decide), fun j j1 j2 => ?_, hq _ ?_ ?_ ?_ ?_⟩
        · rw [hva_ne (by decide), hva_ne (by decide)]; exact k2 j j1 j2
        · rw [hva_ne (by decide), hva_ne (by decide)]
        · exact off_up (off_up (fun _ _ => rfl) (by decide)) (by decide)
        · rw [hup_eq]; first | rfl | rw [o2 51 (by decide)] | (rw [hva_ne (by decide), o2 51 (by decide)])
        · rw [hva_ne (by decide), hup_eq]; first | rfl | rw [o2 56 (by decide)]
      refine hv_aload_n dX8_fillHearing_0 rfl ?_
      refine hv_aload_n dX8_fillHearing_1 rfl ?_
      refine hv_geti dX8_fillHearing_2 fl_X8_26 (by first | rfl | assumption) rfl ?_
      refine hv_iconst (v := 1) dX8_fillHearing_5 (by decide) ?_
      refine hv_iadd dX8_fillHearing_6 ?_
      rw [h4, nI_1]
      refine hv_cv1 (c_knownHouse (S := S) ht hcc.1 (hr (s + 1) (by omega) (by omega)) hk.1 hs) dX8_fillHearing_7 ml_X8_115 mk_X8_knownHouse (by first | rfl | assumption) rfl rfl rfl rfl rfl ?_
      rw [hfa]
      rintro _ _ σ1 _ ⟨rfl, rfl, rfl, a1, a2, a3⟩
      have e1 : σ1 8 4 = nI s := by rw [a2 4 (by decide) (by decide)]; exact h4
      refine hv_istore_n dX8_fillHearing_10 rfl rfl ?_
      refine hv_aload_n dX8_fillHearing_11 rfl ?_
      refine hv_aload_n dX8_fillHearing_12 rfl ?_
      refine hv_geti dX8_fillHearing_13 fl_X8_26 (by first | rfl | assumption) rfl ?_
      refine hv_iconst (v := 2) dX8_fillHearing_16 (by decide) ?_
      refine hv_iadd dX8_fillHearing_17 ?_
      rw [e1, show nI s + 2 = nI (s + 2) from nI_add s 2]
      refine hv_cv1 (c_knownHouse (S := S) (tlC_of ht a1 rfl) (nmC_of hcc.1 (a1 51 (by decide)) (a1 9 (by decide)) (a1 10 (by decide))) (hr (s + 2) (by omega) (by omega)) hk.2 a3) dX8_fillHearing_18 ml_X8_115 mk_X8_knownHouse (by first | rfl | assumption) rfl rfl rfl rfl rfl ?_
      rw [hfb]
      rintro _ _ σ2 _ ⟨rfl, rfl, rfl, b1, b2, b3⟩
      have b4 : tSt none σ2 := b3
      have o2 : ∀ c, c ∉ [8] → σ2 c = σ c := off_tr a1 b1 (by decide) (by decide)
      have e2 : σ2 8 4 = nI s := by rw [b2 4 (by decide) (by decide)]; exact e1
      rw [show oN (some a) = nI a from rfl, show oN (some b) = nI b from rfl]
      refine hv_istore_n dX8_fillHearing_21 rfl rfl ?_
      refine hv_iload_n dX8_fillHearing_22 rfl ?_
      refine hv_iconst (v := -1) dX8_fillHearing_23 (by decide) ?_
      refine hv_icmp_eq (tgt := 32) dX8_fillHearing_24 (by decide) (fun c_24 => absurd c_24 ((show ¬ nI a = -1 from fun q => nI_pos (n := a) (by omega) (by rw [q]; decide)))) (fun c_24 => ?_)
      refine hv_iload_n dX8_fillHearing_27 rfl ?_
      refine hv_iconst (v := -1) dX8_fillHearing_28 (by decide) ?_
      refine hv_icmp_ne (tgt := 33) dX8_fillHearing_29 (by decide) (fun c_29 => ?_) (fun c_29 => absurd c_29 ((show ¬ nI b = -1 from fun q => nI_pos (n := b) (by omega) (by rw [q]; decide))))
      refine hv_iconst (v := 1) dX8_fillHearing_33 (by decide) ?_
      refine hv_iload_n dX8_fillHearing_34 rfl ?_
      refine hv_ishl dX8_fillHearing_35 ?_
      rw [b_shl (by omega)]
      refine hv_istore_n dX8_fillHearing_36 rfl rfl ?_
      refine hv_iload_n dX8_fillHearing_37 rfl ?_
      refine hv_iload_n dX8_fillHearing_38 rfl ?_
      refine hv_icmp_eq (tgt := 56) dX8_fillHearing_39 (by decide) (fun c_39 => ?_) (fun c_39 => ?_)
      · have hbad : a = b ∨ (sHe S a).testBit b = true := Or.inl ((nI_eq (by omega) (by omega)).mp c_39)
        refine hv_aload_n dX8_fillHearing_56 rfl ?_
        refine hv_iconst (v := 3) dX8_fillHearing_57 (by decide) ?_
        refine hv_aload_n dX8_fillHearing_58 rfl ?_
        refine hv_geti dX8_fillHearing_59 fl_X8_26 (by first | rfl | assumption) rfl ?_
        refine hv_iconst (v := 2) dX8_fillHearing_62 (by decide) ?_
        refine hv_iadd dX8_fillHearing_63 ?_
        rw [e2, show nI s + 2 = nI (s + 2) from nI_add s 2]
        refine hv_cv2 (c_tfail (k := 3) (t := s + 2) b4 (Or.inl rfl)) dX8_fillHearing_64 ml_X8_80 mk_X8_fail (by first | rfl | assumption) rfl rfl rfl rfl rfl ?_
        rintro _ _ σ3 _ ⟨rfl, rfl, rfl, d1, d2, d3⟩
        first
          | exact tail σ3 _ (off_tr o2 d1 (by decide) (by decide)) (k8_tr (k8_tr a2 b2) d2) (fun σ' q8 _ _ _ => by rw [if_pos hbad]; exact tSt_of d3 q8)
          | (refine tail σ2 _ o2 (k8_tr a2 b2) (fun σ' q8 qo q51 q56 => ?_)
             rw [if_neg hgood]
             refine ⟨tSt_of b4 q8, ⟨?_, n2, ?_, n4, fun i hi => ?_, fun i hi => ?_⟩, ?_, show sR S + 1 ≤ 16 by omega, fun i hi => ?_, fun i hi => ?_, ?_, ?_, ?_⟩
             · rw [q51, pk_un (by decide)]; exact n1
             · rw [q51, pk_un (by decide)]; exact n3
             · rw [qo 9 (by decide), o2 9 (by decide)]; exact n5 i hi
             · rw [qo 10 (by decide), o2 10 (by decide)]; exact n6 i hi
             · rw [q51, pk_us]; rfl
             · rw [qo 52 (by decide), o2 52 (by decide), qo 53 (by decide), o2 53 (by decide), qo 54 (by decide), o2 54 (by decide), qo 55 (by decide), o2 55 (by decide), q56]
               obtain ⟨w1, w2, w3, w4, w5⟩ := c4 i hi
               refine ⟨w1, w2, w3, w4, ?_⟩
               show upd (σ 56) a (nI (m ||| 2 ^ b)) i = nI (upN (sHe S) a (sHe S a ||| 2 ^ b) i)
               by_cases c : i = a
               · subst c; rw [pk_us, upN_eq, hm]
               · rw [pk_un c, upN_ne c]; exact w5
             · rw [qo 57 (by decide), o2 57 (by decide)]; exact c5 i hi
             · rw [q51, pk_un (by decide)]; exact c6
             · rw [q51, pk_un (by decide)]; exact c7
             · rw [q51, pk_un (by decide)]; exact c8)
      · refine hv_aload_n dX8_fillHearing_42 rfl ?_
        refine hv_getr dX8_fillHearing_43 fl_X8_22 (by first | rfl | assumption) rfl (by first | rfl | assumption) ?_
        refine hv_getr dX8_fillHearing_46 fl_X8_102 (by first | rfl | assumption) rfl (by first | rfl | assumption) ?_
        refine hv_iload_n dX8_fillHearing_49 rfl ?_
        refine hv_iald dX8_fillHearing_50 (by first | rfl | assumption) (j := a) rfl (by omega) (by first | decide | assumption) ?_
        refine hv_iload_n dX8_fillHearing_51 rfl ?_
        refine hv_iand dX8_fillHearing_52 ?_
        rw [o2 56 (by decide), he, b_and (by omega) (by omega)]
        refine hv_if_eq (tgt := 67) dX8_fillHearing_53 (by decide) (fun c_53 => ?_) (fun c_53 => ?_)
        · have hgood : ¬ (a = b ∨ (sHe S a).testBit b = true) := fun q => q.elim (fun q => c_39 (by rw [q])) (fun q => by
            have hz : m &&& 2 ^ b = 0 := (nI_eq (b := 0) (by have := and_lt128 (a := m) (b := 2 ^ b) (by omega); omega) (by decide)).mp c_53
            rw [hm, and_pow0.mp hz] at q
            cases q)
          first
            | exact tail σ3 _ (off_tr o2 d1 (by decide) (by decide)) (k8_tr (k8_tr a2 b2) d2) (fun σ' q8 _ _ _ => by rw [if_pos hbad]; exact tSt_of d3 q8)
            | (refine tail σ2 _ o2 (k8_tr a2 b2) (fun σ' q8 qo q51 q56 => ?_)
               rw [if_neg hgood]
               refine ⟨tSt_of b4 q8, ⟨?_, n2, ?_, n4, fun i hi => ?_, fun i hi => ?_⟩, ?_, show sR S + 1 ≤ 16 by omega, fun i hi => ?_, fun i hi => ?_, ?_, ?_, ?_⟩
               · rw [q51, pk_un (by decide)]; exact n1
               · rw [q51, pk_un (by decide)]; exact n3
               · rw [qo 9 (by decide), o2 9 (by decide)]; exact n5 i hi
               · rw [qo 10 (by decide), o2 10 (by decide)]; exact n6 i hi
               · rw [q51, pk_us]; rfl
               · rw [qo 52 (by decide), o2 52 (by decide), qo 53 (by decide), o2 53 (by decide), qo 54 (by decide), o2 54 (by decide), qo 55 (by decide), o2 55 (by decide), q56]
                 obtain ⟨w1, w2, w3, w4, w5⟩ := c4 i hi
                 refine ⟨w1, w2, w3, w4, ?_⟩
                 show upd (σ 56) a (nI (m ||| 2 ^ b)) i = nI (upN (sHe S) a (sHe S a ||| 2 ^ b) i)
                 by_cases c : i = a
                 · subst c; rw [pk_us, upN_eq, hm]
                 · rw [pk_un c, upN_ne c]; exact w5
               · rw [qo 57 (by decide), o2 57 (by decide)]; exact c5 i hi
               · rw [q51, pk_un (by decide)]; exact c6
               · rw [q51, pk_un (by decide)]; exact c7
               · rw [q51, pk_un (by decide)]; exact c8)
        · have hbad : a = b ∨ (sHe S a).testBit b = true := Or.inr (by
            rw [hm]
            cases hq : m.testBit b with
            | true => rfl
            | false => exact absurd (by rw [and_pow0.mpr hq]; rfl) c_53)
          refine hv_aload_n dX8_fillHearing_56 rfl ?_
          refine hv_iconst (v := 3) dX8_fillHearing_57 (by decide) ?_
          refine hv_aload_n dX8_fillHearing_58 rfl ?_
          refine hv_geti dX8_fillHearing_59 fl_X8_26 (by first | rfl | assumption) rfl ?_
          refine hv_iconst (v := 2) dX8_fillHearing_62 (by decide) ?_
          refine hv_iadd dX8_fillHearing_63 ?_
          rw [e2, show nI s + 2 = nI (s + 2) from nI_add s 2]
          refine hv_cv2 (c_tfail (k := 3) (t := s + 2) b4 (Or.inl rfl)) dX8_fillHearing_64 ml_X8_80 mk_X8_fail (by first | rfl | assumption) rfl rfl rfl rfl rfl ?_
          rintro _ _ σ3 _ ⟨rfl, rfl, rfl, d1, d2, d3⟩
          first
            | exact tail σ3 _ (off_tr o2 d1 (by decide) (by decide)) (k8_tr (k8_tr a2 b2) d2) (fun σ' q8 _ _ _ => by rw [if_pos hbad]; exact tSt_of d3 q8)
            | (refine tail σ2 _ o2 (k8_tr a2 b2) (fun σ' q8 qo q51 q56 => ?_)
               rw [if_neg hgood]
               refine ⟨tSt_of b4 q8, ⟨?_, n2, ?_, n4, fun i hi => ?_, fun i hi => ?_⟩, ?_, show sR S + 1 ≤ 16 by omega, fun i hi => ?_, fun i hi => ?_, ?_, ?_, ?_⟩
               · rw [q51, pk_un (by decide)]; exact n1
               · rw [q51, pk_un (by decide)]; exact n3
               · rw [qo 9 (by decide), o2 9 (by decide)]; exact n5 i hi
               · rw [qo 10 (by decide), o2 10 (by decide)]; exact n6 i hi
               · rw [q51, pk_us]; rfl
               · rw [qo 52 (by decide), o2 52 (by decide), qo 53 (by decide), o2 53 (by decide), qo 54 (by decide), o2 54 (by decide), qo 55 (by decide), o2 55 (by decide), q56]
                 obtain ⟨w1, w2, w3, w4, w5⟩ := c4 i hi
                 refine ⟨w1, w2, w3, w4, ?_⟩
                 show upd (σ 56) a (nI (m ||| 2 ^ b)) i = nI (upN (sHe S) a (sHe S a ||| 2 ^ b) i)
                 by_cases c : i = a
                 · subst c; rw [pk_us, upN_eq, hm]
                 · rw [pk_un c, upN_ne c]; exact w5
               · rw [qo 57 (by decide), o2 57 (by decide)]; exact c5 i hi
               · rw [q51, pk_un (by decide)]; exact c6
               · rw [q51, pk_un (by decide)]; exact c7
               · rw [q51, pk_un (by decide)]; exact c8)
theorem c_addSupporter {f : hF} {n j mI m : Nat} {S : hSm} (ht : tlC f n σ) (hn : nmC f n S σ) (hr : rel f n j) (hk : kd f n j = 23) (hs : tSt none σ) (hmI : mI < 5) (hm : σ 57 mI = nI m) (hm7 : m < 128) : hCal G (m_X8_addSupporter (hQp [8, 57] none (rr 38 51 x (some 51)) σ τ (fun σ' => k8 σ σ' ∧ match fnd (dg f n) (sHn S) (dg f n j) (sH S) with
    | none => tSt (some (4, j)) σ'
    | some a => if m.testBit a = true then tSt (some (3, j)) σ' else tSt none σ' ∧ σ' 57 = upd (σ 57) mI (nI (m ||| 2 ^ a))))) [.ref (hgA G 8), .int (nI mI), .int (nI j)] shp (rr 38 51 x (some 51)) σ τ := by
  have hj := hr.1
  have n2 := hn.2.1
  refine hv_enter pn_X8 rfl ?_
  cases hf : fnd (dg f n) (sHn S) (dg f n j) (sH S) with
  | none =>
    refine hv_aload_n dX8_addSupporter_0 rfl ?_
    refine hv_iload_n dX8_addSupporter_1 rfl ?_
    refine hv_cv1 (c_knownHouse (S := S) ht hn hr hk hs) dX8_addSupporter_2 ml_X8_115 mk_X8_knownHouse (by first | rfl | assumption) rfl rfl rfl rfl rfl ?_
    rw [hf]
    rintro _ _ σ1 _ ⟨rfl, rfl, rfl, a1, a2, a3⟩
    refine hv_istore_n dX8_addSupporter_5 rfl rfl ?_
    refine hv_iload_n dX8_addSupporter_6 rfl ?_
    refine hv_iconst (v := -1) dX8_addSupporter_7 (by decide) ?_
    refine hv_icmp_ne (tgt := 12) dX8_addSupporter_8 (by decide) (fun c_8 => absurd (rfl) c_8) (fun c_8 => ?_)
    refine hv_vret dX8_addSupporter_11 rfl ?_
    exact ⟨rfl, rfl, rfl, off_wk a1 (by decide), a2, a3⟩
  | some a =>
    have ha := (fnd_lt _ a hf).1
    have hpb := pow_lt7 (i := a) (by omega)
    have hor := or_lt128 hm7 hpb
    refine hv_aload_n dX8_addSupporter_0 rfl ?_
    refine hv_iload_n dX8_addSupporter_1 rfl ?_
    refine hv_cv1 (c_knownHouse (S := S) ht hn hr hk hs) dX8_addSupporter_2 ml_X8_115 mk_X8_knownHouse (by first | rfl | assumption) rfl rfl rfl rfl rfl ?_
    rw [hf]
    rintro _ _ σ1 _ ⟨rfl, rfl, rfl, a1, a2, a3⟩
    have a4 : tSt none σ1 := a3
    rw [show oN (some a) = nI a from rfl]
    refine hv_istore_n dX8_addSupporter_5 rfl rfl ?_
    refine hv_iload_n dX8_addSupporter_6 rfl ?_
    refine hv_iconst (v := -1) dX8_addSupporter_7 (by decide) ?_
    refine hv_icmp_ne (tgt := 12) dX8_addSupporter_8 (by decide) (fun c_8 => ?_) (fun c_8 => absurd c_8 ((show ¬ nI a = -1 from fun q => nI_pos (n := a) (by omega) (by rw [q]; decide))))
    refine hv_iconst (v := 1) dX8_addSupporter_12 (by decide) ?_
    refine hv_iload_n dX8_addSupporter_13 rfl ?_
    refine hv_ishl dX8_addSupporter_14 ?_
    rw [b_shl (by omega)]
    refine hv_istore dX8_addSupporter_15 rfl rfl ?_
    refine hv_aload_n dX8_addSupporter_17 rfl ?_
    refine hv_getr dX8_addSupporter_18 fl_X8_22 (by first | rfl | assumption) rfl (by first | rfl | assumption) ?_
    refine hv_getr dX8_addSupporter_21 fl_X8_121 (by first | rfl | assumption) rfl (by first | rfl | assumption) ?_
    refine hv_iload_n dX8_addSupporter_24 rfl ?_
    refine hv_iald dX8_addSupporter_25 (by first | rfl | assumption) (j := mI) rfl (by omega) (by first | decide | assumption) ?_
    refine hv_iload dX8_addSupporter_26 rfl ?_
    refine hv_iand dX8_addSupporter_28 ?_
    rw [a1 57 (by decide), hm, b_and (by omega) (by omega)]
    refine hv_if_eq (tgt := 38) dX8_addSupporter_29 (by decide) (fun c_29 => ?_) (fun c_29 => ?_)
    · have hb : ¬ m.testBit a = true := by
        have hz : m &&& 2 ^ a = 0 := (nI_eq (b := 0) (by have := and_lt128 (a := m) (b := 2 ^ a) hm7; omega) (by decide)).mp c_29
        rw [and_pow0.mp hz]; decide
      refine hv_aload_n dX8_addSupporter_38 rfl ?_
      refine hv_getr dX8_addSupporter_39 fl_X8_22 (by first | rfl | assumption) rfl (by first | rfl | assumption) ?_
      refine hv_getr dX8_addSupporter_42 fl_X8_121 (by first | rfl | assumption) rfl (by first | rfl | assumption) ?_
      refine hv_iload_n dX8_addSupporter_45 rfl ?_
      refine hv_dup2 dX8_addSupporter_46 rfl rfl ?_
      refine hv_iald dX8_addSupporter_47 (by first | rfl | assumption) (j := mI) rfl (by omega) (by first | decide | assumption) ?_
      refine hv_iload dX8_addSupporter_48 rfl ?_
      refine hv_ior dX8_addSupporter_50 ?_
      refine hv_iast dX8_addSupporter_51 (by first | rfl | assumption) (j := mI) rfl (by omega) (by first | decide | assumption) ?_
      refine hv_vret dX8_addSupporter_52 rfl ?_
      first
        | (refine ⟨rfl, rfl, rfl, off_up (off_tr a1 d1 (Z := [8, 57]) (by decide) (by decide)) (by decide), fun q q1 q2 => by rw [hva_ne (by decide), d2 q q1 q2, a2 q q1 q2], ?_⟩
           dsimp only
           rw [if_pos hb]
           exact tSt_of d3 (hva_ne (by decide)))
        | (refine ⟨rfl, rfl, rfl, off_up (off_wk a1 (Z := [8, 57]) (by decide)) (by decide), fun q q1 q2 => by rw [hva_ne (by decide), a2 q q1 q2], ?_⟩
           dsimp only
           rw [if_neg hb]
           refine ⟨tSt_of a4 (hva_ne (by decide)), ?_⟩
           rw [hup_eq, a1 57 (by decide), hm, b_or (by omega) (by omega)])
    · have hb : m.testBit a = true := by
        cases hq : m.testBit a with
        | true => rfl
        | false => exact absurd (by rw [and_pow0.mpr hq]; rfl) c_29
      refine hv_aload_n dX8_addSupporter_32 rfl ?_
      refine hv_iconst (v := 3) dX8_addSupporter_33 (by decide) ?_
      refine hv_iload_n dX8_addSupporter_34 rfl ?_
      refine hv_cv2 (c_tfail (k := 3) (t := j) a4 (Or.inl rfl)) dX8_addSupporter_35 ml_X8_80 mk_X8_fail (by first | rfl | assumption) rfl rfl rfl rfl rfl ?_
      rintro _ _ σ2 _ ⟨rfl, rfl, rfl, d1, d2, d3⟩
      refine hv_aload_n dX8_addSupporter_38 rfl ?_
      refine hv_getr dX8_addSupporter_39 fl_X8_22 (by first | rfl | assumption) rfl (by first | rfl | assumption) ?_
      refine hv_getr dX8_addSupporter_42 fl_X8_121 (by first | rfl | assumption) rfl (by first | rfl | assumption) ?_
      refine hv_iload_n dX8_addSupporter_45 rfl ?_
      refine hv_dup2 dX8_addSupporter_46 rfl rfl ?_
      refine hv_iald dX8_addSupporter_47 (by first | rfl | assumption) (j := mI) rfl (by omega) (by first | decide | assumption) ?_
      refine hv_iload dX8_addSupporter_48 rfl ?_
      refine hv_ior dX8_addSupporter_50 ?_
      refine hv_iast dX8_addSupporter_51 (by first | rfl | assumption) (j := mI) rfl (by omega) (by first | decide | assumption) ?_
      refine hv_vret dX8_addSupporter_52 rfl ?_
      first
        | (refine ⟨rfl, rfl, rfl, off_up (off_tr a1 d1 (Z := [8, 57]) (by decide) (by decide)) (by decide), fun q q1 q2 => by rw [hva_ne (by decide), d2 q q1 q2, a2 q q1 q2], ?_⟩
           dsimp only
           rw [if_pos hb]
           exact tSt_of d3 (hva_ne (by decide)))
        | (refine ⟨rfl, rfl, rfl, off_up (off_wk a1 (Z := [8, 57]) (by decide)) (by decide), fun q q1 q2 => by rw [hva_ne (by decide), a2 q q1 q2], ?_⟩
           dsimp only
           rw [if_neg hb]
           refine ⟨tSt_of a4 (hva_ne (by decide)), ?_⟩
           rw [hup_eq, a1 57 (by decide), hm, b_or (by omega) (by omega)])
theorem c_fillMotion {f : hF} {n s e : Nat} {S : hSm} (ht : tlC f n σ) (hc : clsS f n S σ) (ho : okS S) (hm5 : sM S < 5) (h4 : σ 8 4 = nI s) (hs : tSt none σ) (hr : ∀ j, s ≤ j → j ≤ e → rel f n j) (he : s + 3 ≤ e) (hk1 : kd f n (s + 1) = 23) (hkj : ∀ j, s + 2 ≤ j → j < e - 1 → kd f n j = 23) (hke : kd f n (e - 1) = 27) : hCal G (m_X8_fillMotion (hQp xTl none (rr 38 51 x (some 51)) σ τ (fun σ' => k8 σ σ' ∧ pSm f n (smMotion (dg f n) S s e) σ'))) [.ref (hgA G 8)] shp (rr 38 51 x (some 51)) σ τ := by
  have hcc := hc
  obtain ⟨⟨n1, n2, n3, n4, n5, n6⟩, c2, c3, c4, c5, c6, c7, c8⟩ := hc
  have he4 := (hr e (by omega) (Nat.le_refl _)).1
  have hp7 := pow_le7 n2
  refine hv_enter pn_X8 rfl ?_
  have loop : ∀ k j m (σ1 : hS) (R : Sum (Nat × Nat) hSm), j + k = e - 1 → s + 2 ≤ j → m < 2 ^ sH S → (∀ c, c ∉ xTl → σ1 c = σ c) → k8 σ σ1 → tlC f n σ1 → nmC f n S (va_up (va_up σ1 51 (σ 51)) 10 (σ 10)) → σ1 51 7 = σ 51 7 → tSt none σ1 → σ1 57 (sM S) = nI m → (∀ c, c ∉ [8, 10, 51, 57] → σ1 c = σ c) → (∀ j, j ≠ 9 → σ1 51 j = σ 51 j) → σ1 51 9 = nI (sM S + 1) → σ1 10 = upd (σ 10) (sM S) (nI (s + 1)) → (∀ i, i < sM S → σ1 57 i = σ 57 i) → (match supX (dg f n) S k j m with
    | .inl x => Sum.inl x
    | .inr m => .inr ((sH S, sR S, sM S + 1), (sHn S, upN (sMn S) (sM S) (s + 1)), (sFi S, sCo S, sHu S, sFe S, sHe S), upN (sSu S) (sM S) m, (sSa S, sOd S, sSe S))) = R → hV G (m_X8_fillMotion (hQp xTl none (rr 38 51 x (some 51)) σ τ (fun σ' => k8 σ σ' ∧ pSm f n R σ'))) 0 0 shp 63 [some (.ref (hgA G 8)), some (.int (nI (sM S))), some (.int (nI j))] [] (rr 38 51 x (some 51)) σ1 τ := by
    intro k
    induction k with
    | zero =>
      intro j m σ1 R hj hj2 hm hσ hk8 t1 hnm h517 hst h57 hoff h51 h519 h10 hsu hR
      obtain rfl : j = e - 1 := by omega
      refine hv_iload_n dX8_fillMotion_63 rfl ?_
      refine hv_sipush (v := 400) dX8_fillMotion_64 (by decide) ?_
      refine hv_icmp_gt (tgt := 97) dX8_fillMotion_67 (by decide) (fun c_67 => absurd c_67 ((nI_nlt (a := 400) (by omega) (by decide)))) (fun c_67 => ?_)
      refine hv_aload_n dX8_fillMotion_70 rfl ?_
      refine hv_geti dX8_fillMotion_71 fl_X8_30 (by first | rfl | assumption) rfl ?_
      refine hv_if_ne (tgt := 97) dX8_fillMotion_74 (by decide) (fun c_74 => absurd (hst) c_74) (fun c_74 => ?_)
      refine hv_aload_n dX8_fillMotion_77 rfl ?_
      refine hv_iload_n dX8_fillMotion_78 rfl ?_
      refine hv_cv1 (c_isTellEnd t1 (hr (e - 1) (by omega) (by omega))) dX8_fillMotion_79 ml_X8_58 mk_X8_isTellEnd (by first | rfl | assumption) rfl rfl rfl rfl rfl ?_
      rintro _ _ _ _ ⟨rfl, rfl, rfl, rfl⟩
      rw [decide_eq_true (Or.inl hke)]
      refine hv_if_ne (tgt := 97) dX8_fillMotion_82 (by decide) (fun c_82 => ?_) (fun c_82 => absurd c_82 ((show ¬ bI true = 0 by decide)))
      refine hv_vret dX8_fillMotion_97 rfl ?_
      refine ⟨rfl, rfl, rfl, hσ, hk8, ?_⟩
      rw [← hR]
      refine ⟨hst, ⟨?_, n2, ?_, show sM S + 1 ≤ 5 by omega, fun i hi => ?_, fun i hi => ?_⟩, ?_, c3, fun i hi => ?_, fun i hi => ?_, ?_, ?_, ?_⟩
      · rw [h51 7 (by decide)]; exact n1
      · rw [h519]; rfl
      · rw [hoff 9 (by decide)]; exact n5 i hi
      · have hi2 : i < sM S + 1 := hi
        show σ1 10 i = nI (upN (sMn S) (sM S) (s + 1) i) ∧ rel f n (upN (sMn S) (sM S) (s + 1) i) ∧ kd f n (upN (sMn S) (sM S) (s + 1) i) = 23
        rw [h10]
        by_cases c : i = sM S
        · subst c; rw [pk_us, upN_eq]; exact ⟨rfl, hr (s + 1) (by omega) (by omega), hk1⟩
        · rw [pk_un c, upN_ne c]; exact n6 i (by omega)
      · rw [h51 8 (by decide)]; exact c2
      · rw [hoff 52 (by decide), hoff 53 (by decide), hoff 54 (by decide), hoff 55 (by decide), hoff 56 (by decide)]; exact c4 i hi
      · have hi2 : i < sM S + 1 := hi
        show σ1 57 i = nI (upN (sSu S) (sM S) m i)
        by_cases c : i = sM S
        · subst c; rw [upN_eq]; exact h57
        · rw [upN_ne c, hsu i (by omega)]; exact c5 i (by omega)
      · rw [h51 10 (by decide)]; exact c6
      · rw [h51 11 (by decide)]; exact c7
      · rw [h51 12 (by decide)]; exact c8
    | succ k ih =>
      intro j m σ1 R hj hj2 hm hσ hk8 t1 hnm h517 hst h57 hoff h51 h519 h10 hsu hR
      have hkj2 := hkj j hj2 (by omega)
      have hnm1 : nmC f n ((sH S, sR S, sM S + 1), (sHn S, upN (sMn S) (sM S) (s + 1)), (sFi S, sCo S, sHu S, sFe S, sHe S), sSu S, (sSa S, sOd S, sSe S)) σ1 := by
        refine ⟨by rw [h517]; exact n1, n2, by rw [h519]; rfl, show sM S + 1 ≤ 5 by omega, fun i hi => by rw [hoff 9 (by decide)]; exact n5 i hi, fun i hi => ?_⟩
        have hi2 : i < sM S + 1 := hi
        show σ1 10 i = nI (upN (sMn S) (sM S) (s + 1) i) ∧ rel f n (upN (sMn S) (sM S) (s + 1) i) ∧ kd f n (upN (sMn S) (sM S) (s + 1) i) = 23
        rw [h10]
        by_cases c : i = sM S
        · subst c; rw [pk_us, upN_eq]; exact ⟨rfl, hr (s + 1) (by omega) (by omega), hk1⟩
        · rw [pk_un c, upN_ne c]; exact n6 i (by omega)
      have stop : ∀ (σ2 : hS) (x2 : Nat × Nat) (j2 : Int32), R = .inl x2 → tSt (some x2) σ2 → (∀ c, c ∉ xTl → σ2 c = σ c) → k8 σ σ2 → hV G (m_X8_fillMotion (hQp xTl none (rr 38 51 x (some 51)) σ τ (fun σ' => k8 σ σ' ∧ pSm f n R σ'))) 0 0 shp 63 [some (.ref (hgA G 8)), some (.int (nI (sM S))), some (.int j2)] [] (rr 38 51 x (some 51)) σ2 τ := by
        intro σ2 x2 j2 hR2 hs2 ho2 hk2
        rw [hR2]
        obtain ⟨v1, v2, v3⟩ := hs2
        refine hv_iload_n dX8_fillMotion_63 rfl ?_
        refine hv_sipush (v := 400) dX8_fillMotion_64 (by decide) ?_
        refine hv_icmp_gt (tgt := 97) dX8_fillMotion_67 (by decide) (fun c_67 => ?_) (fun c_67 => ?_)
        · refine hv_vret dX8_fillMotion_97 rfl ?_
          exact ⟨rfl, rfl, rfl, ho2, hk2, v1, v2, v3⟩
        · refine hv_aload_n dX8_fillMotion_70 rfl ?_
          refine hv_geti dX8_fillMotion_71 fl_X8_30 (by first | rfl | assumption) rfl ?_
          refine hv_if_ne (tgt := 97) dX8_fillMotion_74 (by decide) (fun c_74 => ?_) (fun c_74 => absurd c_74 ((by rw [v1]; exact nI_ne0 (by omega) (by omega))))
          refine hv_vret dX8_fillMotion_97 rfl ?_
          exact ⟨rfl, rfl, rfl, ho2, hk2, v1, v2, v3⟩
      have hsx : supX (dg f n) S (k + 1) j m = (match fnd (dg f n) (sHn S) (dg f n j) (sH S) with
        | none => .inl (4, j)
        | some a => if m.testBit a = true then .inl (3, j) else supX (dg f n) S k (j + 1) (m ||| 2 ^ a)) := rfl
      rw [hsx] at hR
      refine hv_iload_n dX8_fillMotion_63 rfl ?_
      refine hv_sipush (v := 400) dX8_fillMotion_64 (by decide) ?_
      refine hv_icmp_gt (tgt := 97) dX8_fillMotion_67 (by decide) (fun c_67 => absurd c_67 ((nI_nlt (a := 400) (by omega) (by decide)))) (fun c_67 => ?_)
      refine hv_aload_n dX8_fillMotion_70 rfl ?_
      refine hv_geti dX8_fillMotion_71 fl_X8_30 (by first | rfl | assumption) rfl ?_
      refine hv_if_ne (tgt := 97) dX8_fillMotion_74 (by decide) (fun c_74 => absurd (hst) c_74) (fun c_74 => ?_)
      refine hv_aload_n dX8_fillMotion_77 rfl ?_
      refine hv_iload_n dX8_fillMotion_78 rfl ?_
      refine hv_cv1 (c_isTellEnd t1 (hr j (by omega) (by omega))) dX8_fillMotion_79 ml_X8_58 mk_X8_isTellEnd (by first | rfl | assumption) rfl rfl rfl rfl rfl ?_
      rintro _ _ _ _ ⟨rfl, rfl, rfl, rfl⟩
      rw [decide_eq_false (fun q => by rw [hkj2] at q; exact absurd q (by decide))]
      refine hv_if_ne (tgt := 97) dX8_fillMotion_82 (by decide) (fun c_82 => absurd ((show bI false = 0 by decide)) c_82) (fun c_82 => ?_)
      refine hv_aload_n dX8_fillMotion_85 rfl ?_
      refine hv_iload_n dX8_fillMotion_86 rfl ?_
      refine hv_iload_n dX8_fillMotion_87 rfl ?_
      refine hv_cv2 (c_addSupporter (j := j) (mI := sM S) (m := m) t1 hnm1 (hr j (by omega) (by omega)) hkj2 hst (by omega) h57 (by omega)) dX8_fillMotion_88 ml_X8_124 mk_X8_addSupporter (by first | rfl | assumption) rfl rfl rfl rfl rfl ?_
      rintro _ _ σ2 _ ⟨rfl, rfl, rfl, a1, a2, a3⟩
      refine hv_iinc dX8_fillMotion_91 rfl (nI_1 j) rfl rfl ?_
      refine hv_goto (tgt := 63) dX8_fillMotion_94 (by decide) ?_
      have o2 : ∀ c, c ∉ xTl → σ2 c = σ c := off_tr hσ a1 (by decide) (by decide)
      have k2 := k8_tr hk8 a2
      change (match fnd (dg f n) (sHn S) (dg f n j) (sH S) with
        | none => tSt (some (4, j)) σ2
        | some a => if m.testBit a = true then tSt (some (3, j)) σ2 else tSt none σ2 ∧ σ2 57 = upd (σ1 57) (sM S) (nI (m ||| 2 ^ a))) at a3
      cases hf : fnd (dg f n) (sHn S) (dg f n j) (sH S) with
      | none =>
        rw [hf] at a3 hR
        exact stop σ2 (4, j) _ hR.symm a3 o2 k2
      | some a =>
        rw [hf] at a3 hR
        dsimp only at a3 hR
        by_cases hb : m.testBit a = true
        · rw [if_pos hb] at a3 hR
          exact stop σ2 (3, j) _ hR.symm a3 o2 k2
        · rw [if_neg hb] at a3 hR
          refine ih (j + 1) (m ||| 2 ^ a) σ2 R (by omega) (by omega) (or_lt_pow hm (fnd_lt _ a hf).1) o2 k2 (tlC_of t1 a1 rfl) (nmC_of hnm ?_ ?_ ?_) (by rw [a1 51 (by decide)]; exact h517) a3.1 (by rw [a3.2, pk_us]) (off_tr hoff a1 (by decide) (by decide)) (fun q hq => by rw [a1 51 (by decide)]; exact h51 q hq) (by rw [a1 51 (by decide)]; exact h519) (by rw [a1 10 (by decide)]; exact h10) (fun i hi => by rw [a3.2, pk_un (by omega)]; exact hsu i hi) hR
          · rw [hva_ne (by decide), hup_eq, hva_ne (by decide), hup_eq]
          · rw [hva_ne (by decide), hva_ne (by decide), hva_ne (by decide), hva_ne (by decide), a1 9 (by decide)]
          · rw [hup_eq, hup_eq]
  refine hv_aload_n dX8_fillMotion_0 rfl ?_
  refine hv_getr dX8_fillMotion_1 fl_X8_22 (by first | rfl | assumption) rfl (by first | rfl | assumption) ?_
  refine hv_geti dX8_fillMotion_4 fl_X8_108 (by first | rfl | assumption) rfl ?_
  refine hv_istore_n dX8_fillMotion_7 rfl rfl ?_
  rw [n3]
  refine hv_iload_n dX8_fillMotion_8 rfl ?_
  refine hv_iconst (v := 5) dX8_fillMotion_9 (by decide) ?_
  refine hv_icmp_lt (tgt := 14) dX8_fillMotion_10 (by decide) (fun c_10 => ?_) (fun c_10 => absurd ((nI_lt (b := 5) hm5 (by decide))) c_10)
  refine hv_aload_n dX8_fillMotion_14 rfl ?_
  refine hv_aload_n dX8_fillMotion_15 rfl ?_
  refine hv_geti dX8_fillMotion_16 fl_X8_26 (by first | rfl | assumption) rfl ?_
  refine hv_iconst (v := 1) dX8_fillMotion_19 (by decide) ?_
  refine hv_iadd dX8_fillMotion_20 ?_
  rw [h4, nI_1]
  refine hv_cv1 (c_checkNewName (S := S) ht hcc.1 (hr (s + 1) (by omega) (by omega)) hk1 hs) dX8_fillMotion_21 ml_X8_87 mk_X8_checkNewName (by first | rfl | assumption) rfl rfl rfl rfl rfl ?_
  rintro _ _ σ1 _ ⟨rfl, rfl, rfl, a1, a2, a3⟩
  have e1 : σ1 8 4 = nI s := by rw [a2 4 (by decide) (by decide)]; exact h4
  refine hv_aload_n dX8_fillMotion_24 rfl ?_
  refine hv_getr dX8_fillMotion_25 fl_X8_15 (by first | rfl | assumption) rfl (by first | rfl | assumption) ?_
  refine hv_iload_n dX8_fillMotion_28 rfl ?_
  refine hv_aload_n dX8_fillMotion_29 rfl ?_
  refine hv_geti dX8_fillMotion_30 fl_X8_26 (by first | rfl | assumption) rfl ?_
  refine hv_iconst (v := 1) dX8_fillMotion_33 (by decide) ?_
  refine hv_iadd dX8_fillMotion_34 ?_
  rw [e1, nI_1]
  refine hv_iast dX8_fillMotion_35 (by first | rfl | assumption) (j := sM S) rfl (by omega) (by first | decide | assumption) ?_
  refine hv_aload_n dX8_fillMotion_36 rfl ?_
  refine hv_getr dX8_fillMotion_37 fl_X8_22 (by first | rfl | assumption) rfl (by first | rfl | assumption) ?_
  refine hv_iload_n dX8_fillMotion_40 rfl ?_
  refine hv_iconst (v := 1) dX8_fillMotion_41 (by decide) ?_
  refine hv_iadd dX8_fillMotion_42 ?_
  rw [nI_1]
  refine hv_puti dX8_fillMotion_43 fl_X8_108 (by first | rfl | assumption) rfl rfl rfl ?_
  refine hv_aload_n dX8_fillMotion_46 rfl ?_
  refine hv_getr dX8_fillMotion_47 fl_X8_22 (by first | rfl | assumption) rfl (by first | rfl | assumption) ?_
  refine hv_getr dX8_fillMotion_50 fl_X8_121 (by first | rfl | assumption) rfl (by first | rfl | assumption) ?_
  refine hv_iload_n dX8_fillMotion_53 rfl ?_
  refine hv_iconst (v := 0) dX8_fillMotion_54 (by decide) ?_
  refine hv_iast dX8_fillMotion_55 (by first | rfl | assumption) (j := sM S) rfl (by omega) (by first | decide | assumption) ?_
  refine hv_aload_n dX8_fillMotion_56 rfl ?_
  refine hv_geti dX8_fillMotion_57 fl_X8_26 (by first | rfl | assumption) rfl ?_
  rw [hva_ne (show 8 ≠ 57 by decide), hva_ne (show 8 ≠ 51 by decide), hva_ne (show 8 ≠ 10 by decide), e1]
  refine hv_iconst (v := 2) dX8_fillMotion_60 (by decide) ?_
  refine hv_iadd dX8_fillMotion_61 ?_
  rw [show nI s + 2 = nI (s + 2) from nI_add s 2]
  refine hv_istore_n dX8_fillMotion_62 rfl rfl ?_
  obtain ⟨σ2, hσ2⟩ : ∃ σ2 : hS, va_up (va_up (va_up σ1 10 (upd (σ1 10) (sM S) (nI (s + 1)))) 51 (upd (va_up σ1 10 (upd (σ1 10) (sM S) (nI (s + 1))) 51) 9 (nI (sM S + 1)))) 57 (upd (va_up (va_up σ1 10 (upd (σ1 10) (sM S) (nI (s + 1)))) 51 (upd (va_up σ1 10 (upd (σ1 10) (sM S) (nI (s + 1))) 51) 9 (nI (sM S + 1))) 57) (sM S) 0) = σ2 := ⟨_, rfl⟩
  rw [hσ2]
  have q1 : ∀ c, c ∉ [10, 51, 57] → σ2 c = σ1 c := fun c hc => by
    simp only [List.mem_cons, List.not_mem_nil, or_false, not_or] at hc
    rw [← hσ2, hva_ne hc.2.2, hva_ne hc.2.1, hva_ne hc.1]
  have q2 : σ2 51 = upd (σ 51) 9 (nI (sM S + 1)) := by rw [← hσ2, hva_ne (by decide), hup_eq, hva_ne (by decide), a1 51 (by decide)]
  have q3 : σ2 10 = upd (σ 10) (sM S) (nI (s + 1)) := by rw [← hσ2, hva_ne (by decide), hva_ne (by decide), hup_eq, a1 10 (by decide)]
  have q4 : σ2 57 = upd (σ 57) (sM S) 0 := by rw [← hσ2, hup_eq, hva_ne (by decide), hva_ne (by decide), a1 57 (by decide)]
  have o2 : ∀ c, c ∉ [8, 10, 51, 57] → σ2 c = σ c := off_tr a1 q1 (by decide) (by decide)
  have k2 : k8 σ σ2 := k8_tr a2 (fun j _ _ => by rw [q1 8 (by decide)])
  have a4 := tSt_of a3 (q1 8 (by decide))
  unfold smMotion
  by_cases z0 : tld (dg f n) S (dg f n (s + 1)) = true
  · rw [if_pos z0] at a4 ⊢
    have a5 : tSt (some (3, s + 1)) σ2 := a4
    obtain ⟨v1, v2, v3⟩ := a5
    refine hv_iload_n dX8_fillMotion_63 rfl ?_
    refine hv_sipush (v := 400) dX8_fillMotion_64 (by decide) ?_
    refine hv_icmp_gt (tgt := 97) dX8_fillMotion_67 (by decide) (fun c_67 => ?_) (fun c_67 => ?_)
    · refine hv_vret dX8_fillMotion_97 rfl ?_
      exact ⟨rfl, rfl, rfl, off_wk o2 (by decide), k2, v1, v2, v3⟩
    · refine hv_aload_n dX8_fillMotion_70 rfl ?_
      refine hv_geti dX8_fillMotion_71 fl_X8_30 (by first | rfl | assumption) rfl ?_
      refine hv_if_ne (tgt := 97) dX8_fillMotion_74 (by decide) (fun c_74 => ?_) (fun c_74 => absurd c_74 ((by rw [v1]; exact nI_ne0 (by omega) (by omega))))
      refine hv_vret dX8_fillMotion_97 rfl ?_
      exact ⟨rfl, rfl, rfl, off_wk o2 (by decide), k2, v1, v2, v3⟩
  · rw [if_neg z0] at a4 ⊢
    refine loop (e - 1 - (s + 2)) (s + 2) 0 σ2 _ (by omega) (Nat.le_refl _) (Nat.two_pow_pos _) (off_wk o2 (by decide)) k2 (tlC_of (tlC_of ht a1 rfl) q1 rfl) (nmC_of hcc.1 ?_ ?_ ?_) (by rw [q2, pk_un (by decide)]) a4 (by rw [q4, pk_us]; rfl) o2 (fun j hj => by rw [q2, pk_un hj]) (by rw [q2, pk_us]) q3 (fun i hi => by rw [q4, pk_un (by omega)]) rfl
    · rw [hva_ne (by decide), hup_eq]
    · rw [hva_ne (by decide), hva_ne (by decide), o2 9 (by decide)]
    · rw [hup_eq]
end S85

