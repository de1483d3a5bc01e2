theorem uX_0 (K V : Nat → Nat) (s : Nat) : uX K V 0 s = if K s = 24 then bd (pass s) (fun a _ => .inr (a, [(0, nI (V s))])) else if 14 ≤ K s ∧ K s ≤ 22 then bd (pass s) (fun a _ => .inr (a, [(1, nI (K s - 14))])) else if K s = 34 then .inl (2, s) else .inl (1, s) := rfl
theorem uX_s (K V : Nat → Nat) (e s : Nat) : uX K V (e + 1) s = if K s = 24 then bd (pass s) (fun a _ => .inr (a, [(0, nI (V s))])) else if 14 ≤ K s ∧ K s ≤ 22 then bd (pass s) (fun a _ => .inr (a, [(1, nI (K s - 14))])) else if K s = 34 then bd (pass s) (fun a _ => bd (sumX K (uX K V e) a) (fun a' c => bd (tk K 35 a') (fun a'' _ => .inr (a'', c)))) else .inl (1, s) := rfl
theorem bd_assoc {α β γ : Type} (r : hPR α) (g : Nat → α → hPR β) (g2 : Nat → β → hPR γ) : bd (bd r g) g2 = bd r (fun a c => bd (g a c) g2) := by
  rcases r with e | ⟨a, c⟩ <;> rfl
theorem prodL_s (K : Nat → Nat) (U : Nat → hPR hCd) (k s : Nat) (c : hCd) : prodL K U (k + 1) s c = if K s = 31 ∨ K s = 32 then bd (pass s) (fun a _ => bd (U a) (fun a' c' => prodL K U k a' (c ++ c' ++ [(if K s = 31 then 4 else 5, 0)]))) else .inr (s, c) := rfl
theorem sumL_s (K : Nat → Nat) (U : Nat → hPR hCd) (k s : Nat) (c : hCd) : sumL K U (k + 1) s c = if K s = 29 ∨ K s = 30 then bd (pass s) (fun a _ => bd (U a) (fun a' c' => sumL K U k a' (c ++ c' ++ [(if K s = 29 then 2 else 3, 0)]))) else .inr (s, c) := rfl
abbrev xEx : List Nat := [7, 58, 59, 60]
theorem pass_r {a b : Nat} {u : Unit} (q : pass a = .inr (b, u)) : a < 400 ∧ b = a + 1 := by
  unfold pass at q
  split at q
  · cases q; exact ⟨by assumption, rfl⟩
  · cases q
theorem tk_r {K : Nat → Nat} {k a b : Nat} {u : Unit} (q : tk K k a = .inr (b, u)) : K a = k ∧ a < 400 ∧ b = a + 1 := by
  unfold tk at q
  split at q
  · exact ⟨by assumption, pass_r q⟩
  · cases q
theorem pLw_58 {sz : Nat} {c : hCd} {σ σ' : hS} (h : pLw sz c σ σ') : ∀ j, j ≠ 5 → σ' 58 j = σ 58 j := h.1
section S76
variable {G : hGl} {σ : hS} {τ : hT} {y : Option Nat}
set_option maxRecDepth 100000 in
theorem c_parseUnit_6 {f : hF} {n sz : Nat} {s : hPR Unit} (ht : tokC f n σ) (hs : pSt f n s σ) (hz : szOk sz s σ) : hCal G (m_parseUnit_6 (hQp xEx none (rr 38 51 (some 58) y) σ τ (fun σ' => k7 σ σ' ∧ pEx f n sz (bd s (fun a _ => uX (kd f n) (vl f n) 0 a)) σ σ'))) [.ref (hgA G 7), .int (nI 6)] shp (rr 38 51 (some 58) y) σ τ := by
  refine hv_enter pn_X4 rfl ?_
  obtain ⟨z1, z2, z3⟩ := hz
  rcases s with ⟨z, t⟩ | ⟨a, u⟩
  · have h1 := hs.1
    have hne : ¬ σ 7 7 = 0 := by rw [h1]; exact nI_ne0 (by have := hs.2.1; omega) (by have := hs.2.1; omega)
    refine hv_aload_n dX4_parseUnit_0 rfl ?_
    refine hv_geti dX4_parseUnit_1 fl_X4_41 (by first | rfl | assumption) rfl ?_
    refine hv_if_eq (tgt := 8) dX4_parseUnit_4 (by decide) (fun c_4 => absurd c_4 (hne)) (fun c_4 => ?_)
    refine hv_vret dX4_parseUnit_7 rfl ?_
    exact ⟨rfl, rfl, rfl, fun _ _ => rfl, k7_rf, hs, fun _ _ => rfl, sz, z2, z1⟩
  · have hsz := z3 a u rfl
    have h1 := hs.1
    have h2 := hs.2.1
    have h3 := hs.2.2.1
    have h4 := hs.2.2.2
    have ha := h4.1
    have hkl := kd_le f n a
    have hu := uX_0 (kd f n) (vl f n)  a
    rw [show bd (Sum.inr (a, u) : hPR Unit) (fun a _ => uX (kd f n) (vl f n) 0 a) = _ from hu]
    have leaf : ∀ (k o : Int32) (σ1 : hS), (∀ k, k ∉ [58, 59, 60] → σ1 k = σ k) → pPut sz k o σ σ1 → tokC f n σ1 ∧ pSt f n (.inr (a, u)) σ1 ∧ ∀ σ2 : hS, (∀ k, k ∉ [7] → σ2 k = σ1 k) → k7 σ1 σ2 → pSt f n (bd (Sum.inr (a, u) : hPR Unit) (fun a _ => pass a)) σ2 → (∀ c, c ∉ xEx → σ2 c = σ c) ∧ k7 σ σ2 ∧ pEx f n sz (bd (pass a) (fun a _ => .inr (a, [(k, o)]))) σ σ2 := by
      intro k o σ1 q1 q2
      refine ⟨tokC_of ht q1 rfl, pSt_of hs (q1 7 (by decide)), fun σ2 r1 r2 r3 => ⟨off_tr q1 r1 (by decide) (by decide), k7_tr (fun j _ _ _ => by rw [q1 7 (by decide)]) r2, ?_⟩⟩
      have r4 : pSt f n (pass a) σ2 := r3
      unfold pass at r4 ⊢
      by_cases c : a < 400
      · rw [if_pos c] at r4 ⊢
        exact ⟨r4, pLw_of (pLw_p1 (by omega) q2) (r1 58 (by decide)) (r1 59 (by decide)) (r1 60 (by decide)), by simp; omega⟩
      · rw [if_neg c] at r4 ⊢
        exact ⟨r4, pLg_of (pLg_p z1 z2 q2) (r1 58 (by decide))⟩
    have flt : ∀ v : Nat, (v = 1 ∨ v = 2) → pEx f n sz (.inl (v, a)) σ (va_up σ 7 (upd (σ 7) 7 (nI v))) := by
      intro v hv
      exact ⟨⟨by rw [hup_eq, pk_us], hv, by rw [hup_eq, pk_un (by decide)]; exact h2, h4⟩, fun j hj => by rw [hva_ne (by decide)], sz, z2, by rw [hva_ne (by decide)]; exact z1⟩
    refine hv_aload_n dX4_parseUnit_0 rfl ?_
    refine hv_geti dX4_parseUnit_1 fl_X4_41 (by first | rfl | assumption) rfl ?_
    refine hv_if_eq (tgt := 8) dX4_parseUnit_4 (by decide) (fun c_4 => ?_) (fun c_4 => absurd (h1) c_4)
    refine hv_aload_n dX4_parseUnit_8 rfl ?_
    refine hv_geti dX4_parseUnit_9 fl_X4_29 (by first | rfl | assumption) rfl ?_
    refine hv_bipush (v := 24) dX4_parseUnit_12 (by decide) ?_
    rw [h3]
    refine hv_icmp_ne (tgt := 48) dX4_parseUnit_14 (by decide) (fun c_14 => ?_) (fun c_14 => ?_)
    · have hk : ¬ kd f n a = 24 := fun q => c_14 (by rw [q]; rfl)
      rw [if_neg hk]
      refine hv_aload_n dX4_parseUnit_48 rfl ?_
      refine hv_geti dX4_parseUnit_49 fl_X4_29 (by first | rfl | assumption) rfl ?_
      refine hv_bipush (v := 14) dX4_parseUnit_52 (by decide) ?_
      rw [h3]
      refine hv_icmp_lt (tgt := 93) dX4_parseUnit_54 (by decide) (fun c_54 => ?_) (fun c_54 => ?_)
      · have hv : ¬ (14 ≤ kd f n a ∧ kd f n a ≤ 22) := fun q => by have := (nI_ltI (b := 14) (by omega) (by decide)).mp c_54; omega
        rw [if_neg hv]
        refine hv_aload_n dX4_parseUnit_93 rfl ?_
        refine hv_geti dX4_parseUnit_94 fl_X4_29 (by first | rfl | assumption) rfl ?_
        refine hv_bipush (v := 34) dX4_parseUnit_97 (by decide) ?_
        rw [h3]
        refine hv_icmp_eq (tgt := 110) dX4_parseUnit_99 (by decide) (fun c_99 => ?_) (fun c_99 => ?_)
        · have ho : kd f n a = 34 := (nI_eq (b := 34) (by omega) (by decide)).mp c_99
          rw [if_pos ho]
          refine hv_iload_n dX4_parseUnit_110 rfl ?_
          refine hv_bipush (v := 6) dX4_parseUnit_111 (by decide) ?_
          refine hv_icmp_lt (tgt := 124) dX4_parseUnit_113 (by decide) (fun c_113 => absurd c_113 ((by decide))) (fun c_113 => ?_)
          refine hv_aload_n dX4_parseUnit_116 rfl ?_
          refine hv_iconst (v := 2) dX4_parseUnit_117 (by decide) ?_
          refine hv_cv1 (c_pfail) dX4_parseUnit_118 ml_X4_60 mk_X4_fail (by first | rfl | assumption) rfl rfl rfl rfl rfl ?_
          rintro _ _ _ _ ⟨rfl, rfl, rfl, rfl⟩
          rw [if_pos h1]
          refine hv_goto (tgt := 145) dX4_parseUnit_121 (by decide) ?_
          refine hv_vret dX4_parseUnit_145 rfl ?_
          first
            | exact ⟨rfl, rfl, rfl, m1, m2, m3⟩
            | exact ⟨rfl, rfl, rfl, off_up (fun _ _ => rfl) (by decide), fun j j1 j2 j3 => by rw [hup_eq, pk_un j3], flt 1 (Or.inl rfl)⟩
            | exact ⟨rfl, rfl, rfl, off_up (fun _ _ => rfl) (by decide), fun j j1 j2 j3 => by rw [hup_eq, pk_un j3], flt 2 (Or.inr rfl)⟩
        · have ho : ¬ kd f n a = 34 := fun q => c_99 (by rw [q]; rfl)
          rw [if_neg ho]
          refine hv_aload_n dX4_parseUnit_102 rfl ?_
          refine hv_iconst (v := 1) dX4_parseUnit_103 (by decide) ?_
          refine hv_cv1 (c_pfail) dX4_parseUnit_104 ml_X4_60 mk_X4_fail (by first | rfl | assumption) rfl rfl rfl rfl rfl ?_
          rintro _ _ _ _ ⟨rfl, rfl, rfl, rfl⟩
          rw [if_pos h1]
          refine hv_goto (tgt := 145) dX4_parseUnit_107 (by decide) ?_
          refine hv_vret dX4_parseUnit_145 rfl ?_
          first
            | exact ⟨rfl, rfl, rfl, m1, m2, m3⟩
            | exact ⟨rfl, rfl, rfl, off_up (fun _ _ => rfl) (by decide), fun j j1 j2 j3 => by rw [hup_eq, pk_un j3], flt 1 (Or.inl rfl)⟩
            | exact ⟨rfl, rfl, rfl, off_up (fun _ _ => rfl) (by decide), fun j j1 j2 j3 => by rw [hup_eq, pk_un j3], flt 2 (Or.inr rfl)⟩
      · refine hv_aload_n dX4_parseUnit_57 rfl ?_
        refine hv_geti dX4_parseUnit_58 fl_X4_29 (by first | rfl | assumption) rfl ?_
        refine hv_bipush (v := 22) dX4_parseUnit_61 (by decide) ?_
        rw [h3]
        refine hv_icmp_gt (tgt := 93) dX4_parseUnit_63 (by decide) (fun c_63 => ?_) (fun c_63 => ?_)
        · have hv : ¬ (14 ≤ kd f n a ∧ kd f n a ≤ 22) := fun q => by have := (nI_ltI (a := 22) (by decide) (by omega)).mp c_63; omega
          rw [if_neg hv]
          refine hv_aload_n dX4_parseUnit_93 rfl ?_
          refine hv_geti dX4_parseUnit_94 fl_X4_29 (by first | rfl | assumption) rfl ?_
          refine hv_bipush (v := 34) dX4_parseUnit_97 (by decide) ?_
          rw [h3]
          refine hv_icmp_eq (tgt := 110) dX4_parseUnit_99 (by decide) (fun c_99 => ?_) (fun c_99 => ?_)
          · have ho : kd f n a = 34 := (nI_eq (b := 34) (by omega) (by decide)).mp c_99
            rw [if_pos ho]
            refine hv_iload_n dX4_parseUnit_110 rfl ?_
            refine hv_bipush (v := 6) dX4_parseUnit_111 (by decide) ?_
            refine hv_icmp_lt (tgt := 124) dX4_parseUnit_113 (by decide) (fun c_113 => absurd c_113 ((by decide))) (fun c_113 => ?_)
            refine hv_aload_n dX4_parseUnit_116 rfl ?_
            refine hv_iconst (v := 2) dX4_parseUnit_117 (by decide) ?_
            refine hv_cv1 (c_pfail) dX4_parseUnit_118 ml_X4_60 mk_X4_fail (by first | rfl | assumption) rfl rfl rfl rfl rfl ?_
            rintro _ _ _ _ ⟨rfl, rfl, rfl, rfl⟩
            rw [if_pos h1]
            refine hv_goto (tgt := 145) dX4_parseUnit_121 (by decide) ?_
            refine hv_vret dX4_parseUnit_145 rfl ?_
            first
              | exact ⟨rfl, rfl, rfl, m1, m2, m3⟩
              | exact ⟨rfl, rfl, rfl, off_up (fun _ _ => rfl) (by decide), fun j j1 j2 j3 => by rw [hup_eq, pk_un j3], flt 1 (Or.inl rfl)⟩
              | exact ⟨rfl, rfl, rfl, off_up (fun _ _ => rfl) (by decide), fun j j1 j2 j3 => by rw [hup_eq, pk_un j3], flt 2 (Or.inr rfl)⟩
          · have ho : ¬ kd f n a = 34 := fun q => c_99 (by rw [q]; rfl)
            rw [if_neg ho]
            refine hv_aload_n dX4_parseUnit_102 rfl ?_
            refine hv_iconst (v := 1) dX4_parseUnit_103 (by decide) ?_
            refine hv_cv1 (c_pfail) dX4_parseUnit_104 ml_X4_60 mk_X4_fail (by first | rfl | assumption) rfl rfl rfl rfl rfl ?_
            rintro _ _ _ _ ⟨rfl, rfl, rfl, rfl⟩
            rw [if_pos h1]
            refine hv_goto (tgt := 145) dX4_parseUnit_107 (by decide) ?_
            refine hv_vret dX4_parseUnit_145 rfl ?_
            first
              | exact ⟨rfl, rfl, rfl, m1, m2, m3⟩
              | exact ⟨rfl, rfl, rfl, off_up (fun _ _ => rfl) (by decide), fun j j1 j2 j3 => by rw [hup_eq, pk_un j3], flt 1 (Or.inl rfl)⟩
              | exact ⟨rfl, rfl, rfl, off_up (fun _ _ => rfl) (by decide), fun j j1 j2 j3 => by rw [hup_eq, pk_un j3], flt 2 (Or.inr rfl)⟩
        · have hv : 14 ≤ kd f n a ∧ kd f n a ≤ 22 := ⟨(nI_leI (a := 14) (by decide) (by omega)).mp (Int32.not_lt.mp c_54), (nI_leI (b := 22) (by omega) (by decide)).mp (Int32.not_lt.mp c_63)⟩
          rw [if_pos hv]
          refine hv_aload_n dX4_parseUnit_66 rfl ?_
          refine hv_getr dX4_parseUnit_67 fl_X4_15 (by first | rfl | assumption) rfl (by first | rfl | assumption) ?_
          refine hv_iconst (v := 1) dX4_parseUnit_70 (by decide) ?_
          refine hv_aload_n dX4_parseUnit_71 rfl ?_
          refine hv_geti dX4_parseUnit_72 fl_X4_29 (by first | rfl | assumption) rfl ?_
          refine hv_bipush (v := 14) dX4_parseUnit_75 (by decide) ?_
          rw [h3]
          refine hv_isub dX4_parseUnit_77 ?_
          rw [show nI (kd f n a) - 14 = nI (kd f n a - 14) from pk_sub (b := 14) hv.1]
          refine hv_cv2 (c_lput z1 z2) dX4_parseUnit_78 ml_X4_80 mk_X1_put (by first | rfl | assumption) rfl rfl rfl rfl rfl ?_
          rintro _ _ σ1 _ ⟨rfl, rfl, rfl, q1, q2⟩
          obtain ⟨l1, l2, l3⟩ := leaf _ _ σ1 q1 q2
          refine hv_pop dX4_parseUnit_81 rfl ?_
          refine hv_aload_n dX4_parseUnit_82 rfl ?_
          refine hv_aload_n dX4_parseUnit_83 rfl ?_
          refine hv_geti dX4_parseUnit_84 fl_X4_29 (by first | rfl | assumption) rfl ?_
          refine hv_cv1 (c_pass l1 l2 (fun b w q => by cases q; omega)) dX4_parseUnit_87 ml_X4_63 mk_X4_take (by first | rfl | assumption) rfl rfl rfl rfl rfl ?_
          rintro _ _ σ2 _ ⟨rfl, rfl, rfl, r1, r2, r3⟩
          obtain ⟨m1, m2, m3⟩ := l3 σ2 r1 r2 r3
          refine hv_goto (tgt := 145) dX4_parseUnit_90 (by decide) ?_
          refine hv_vret dX4_parseUnit_145 rfl ?_
          first
            | exact ⟨rfl, rfl, rfl, m1, m2, m3⟩
            | exact ⟨rfl, rfl, rfl, off_up (fun _ _ => rfl) (by decide), fun j j1 j2 j3 => by rw [hup_eq, pk_un j3], flt 1 (Or.inl rfl)⟩
            | exact ⟨rfl, rfl, rfl, off_up (fun _ _ => rfl) (by decide), fun j j1 j2 j3 => by rw [hup_eq, pk_un j3], flt 2 (Or.inr rfl)⟩
    · have hk : kd f n a = 24 := (nI_eq (b := 24) (by omega) (by decide)).mp c_14
      rw [if_pos hk]
      refine hv_aload_n dX4_parseUnit_17 rfl ?_
      refine hv_getr dX4_parseUnit_18 fl_X4_15 (by first | rfl | assumption) rfl (by first | rfl | assumption) ?_
      refine hv_iconst (v := 0) dX4_parseUnit_21 (by decide) ?_
      refine hv_aload_n dX4_parseUnit_22 rfl ?_
      refine hv_getr dX4_parseUnit_23 fl_X4_9 (by first | rfl | assumption) rfl (by first | rfl | assumption) ?_
      refine hv_aload_n dX4_parseUnit_26 rfl ?_
      refine hv_geti dX4_parseUnit_27 fl_X4_19 (by first | rfl | assumption) rfl ?_
      rw [h2]
      refine hv_cv1 (c_tvalue ht h4) dX4_parseUnit_30 ml_X4_97 mk_X9_value (by first | rfl | assumption) rfl rfl rfl rfl rfl ?_
      rintro _ _ _ _ ⟨rfl, rfl, rfl, rfl⟩
      refine hv_cv2 (c_lput z1 z2) dX4_parseUnit_33 ml_X4_80 mk_X1_put (by first | rfl | assumption) rfl rfl rfl rfl rfl ?_
      rintro _ _ σ1 _ ⟨rfl, rfl, rfl, q1, q2⟩
      obtain ⟨l1, l2, l3⟩ := leaf _ _ σ1 q1 q2
      refine hv_pop dX4_parseUnit_36 rfl ?_
      refine hv_aload_n dX4_parseUnit_37 rfl ?_
      refine hv_aload_n dX4_parseUnit_38 rfl ?_
      refine hv_geti dX4_parseUnit_39 fl_X4_29 (by first | rfl | assumption) rfl ?_
      refine hv_cv1 (c_pass l1 l2 (fun b w q => by cases q; rw [hk]; decide)) dX4_parseUnit_42 ml_X4_63 mk_X4_take (by first | rfl | assumption) rfl rfl rfl rfl rfl ?_
      rintro _ _ σ2 _ ⟨rfl, rfl, rfl, r1, r2, r3⟩
      obtain ⟨m1, m2, m3⟩ := l3 σ2 r1 r2 r3
      refine hv_goto (tgt := 145) dX4_parseUnit_45 (by decide) ?_
      refine hv_vret dX4_parseUnit_145 rfl ?_
      first
        | exact ⟨rfl, rfl, rfl, m1, m2, m3⟩
        | exact ⟨rfl, rfl, rfl, off_up (fun _ _ => rfl) (by decide), fun j j1 j2 j3 => by rw [hup_eq, pk_un j3], flt 1 (Or.inl rfl)⟩
        | exact ⟨rfl, rfl, rfl, off_up (fun _ _ => rfl) (by decide), fun j j1 j2 j3 => by rw [hup_eq, pk_un j3], flt 2 (Or.inr rfl)⟩
set_option maxRecDepth 100000 in
theorem c_parseProduct_6 {f : hF} {n sz : Nat} {s : hPR Unit} (ht : tokC f n σ) (hs : pSt f n s σ) (hz : szOk sz s σ) : hCal G (m_parseProduct_6 (hQp xEx none (rr 38 51 (some 58) y) σ τ (fun σ' => k7 σ σ' ∧ pEx f n sz (bd s (fun a _ => prodX (kd f n) (uX (kd f n) (vl f n) 0) a)) σ σ'))) [.ref (hgA G 7), .int (nI 6)] shp (rr 38 51 (some 58) y) σ τ := by
  refine hv_enter pn_X4 rfl ?_
  obtain ⟨U, hU⟩ : ∃ U : Nat → hPR hCd, uX (kd f n) (vl f n) 0 = U := ⟨_, rfl⟩
  have hUo : ∀ at', at' ≤ 400 → okG (kd f n) at' (fun a c => at' < a ∧ c.length ≤ a - at') (U at') := fun at' h => by
    rw [← hU]
    exact okG_mono _ (uX_ok (kd f n) (vl f n) 0 at' h) (fun a c _ _ q => ⟨q.1, q.2.2.1⟩)
  have call : ∀ {s2 : hPR Unit} {σ2 : hS} {sz2 : Nat}, tokC f n σ2 → pSt f n s2 σ2 → szOk sz2 s2 σ2 → hCal G (m_parseUnit_6 (hQp xEx none (rr 38 51 (some 58) y) σ2 τ (fun σ' => k7 σ2 σ' ∧ pEx f n sz2 (bd s2 (fun a _ => U a)) σ2 σ'))) [.ref (hgA G 7), .int (nI 6)] shp (rr 38 51 (some 58) y) σ2 τ := fun h1 h2 h3 => by
    rw [← hU]; exact c_parseUnit_6 h1 h2 h3
  rw [show (fun a (_ : Unit) => prodX (kd f n) (uX (kd f n) (vl f n) 0) a) = (fun a _ => bd (U a) (fun a c => prodL (kd f n) U 401 a c)) from by rw [← hU]; rfl]
  have loop : ∀ k i r res (σ1 : hS) (l3 : Option Value), i + k = 401 → (l3 = none ∨ ∃ z, l3 = some (.int z)) → (∀ c, c ∉ xEx → σ1 c = σ c) → k7 σ σ1 → pEx f n sz r σ σ1 → bd r (fun a c => prodL (kd f n) U k a c) = res → hV G (m_parseProduct_6 (hQp xEx none (rr 38 51 (some 58) y) σ τ (fun σ' => k7 σ σ' ∧ pEx f n sz res σ σ'))) 0 0 shp 7 [some (.ref (hgA G 7)), some (.int (nI 6)), some (.int (nI i)), l3] [] (rr 38 51 (some 58) y) σ1 τ := by
    intro k
    induction k with
    | zero =>
      intro i r res σ1 l3 hi hl3 hσ hk hp hr
      obtain rfl : i = 401 := by omega
      have hrr : r = res := by rw [← hr]; rcases r with e | ⟨a, c⟩ <;> rfl
      refine hv_iload_n dX4_parseProduct_7 rfl ?_
      refine hv_sipush (v := 400) dX4_parseProduct_8 (by decide) ?_
      refine hv_icmp_gt (tgt := 76) dX4_parseProduct_11 (by decide) (fun c_11 => ?_) (fun c_11 => absurd ((by decide)) c_11)
      refine hv_vret dX4_parseProduct_76 rfl ?_
      rw [← hrr]; exact ⟨rfl, rfl, rfl, hσ, hk, hp⟩
    | succ k ih =>
      intro i r res σ1 l3 hi hl3 hσ hk hp hr
      rcases r with ⟨z, t⟩ | ⟨a, c⟩
      · have hp2 := hp.1
        have h1 := hp2.1
        have hne : ¬ σ1 7 7 = 0 := by rw [h1]; exact nI_ne0 (by have := hp2.2.1; omega) (by have := hp2.2.1; omega)
        refine hv_iload_n dX4_parseProduct_7 rfl ?_
        refine hv_sipush (v := 400) dX4_parseProduct_8 (by decide) ?_
        refine hv_icmp_gt (tgt := 76) dX4_parseProduct_11 (by decide) (fun c_11 => absurd c_11 ((nI_nlt (a := 400) (by omega) (by decide)))) (fun c_11 => ?_)
        refine hv_aload_n dX4_parseProduct_14 rfl ?_
        refine hv_geti dX4_parseProduct_15 fl_X4_41 (by first | rfl | assumption) rfl ?_
        refine hv_if_ne (tgt := 76) dX4_parseProduct_18 (by decide) (fun c_18 => ?_) (fun c_18 => absurd c_18 (hne))
        refine hv_vret dX4_parseProduct_76 rfl ?_
        rw [← hr]; exact ⟨rfl, rfl, rfl, hσ, hk, hp⟩
      · obtain ⟨hp2, hp3, hp4⟩ := hp
        have h1 := hp2.1
        have h3 := hp2.2.2.1
        have ha4 := hp2.2.2.2.1
        have hkl := kd_le f n a
        have tk1 : tokC f n σ1 := tokC_of ht hσ rfl
        rw [show bd (Sum.inr (a, c) : hPR hCd) (fun a c => prodL (kd f n) U (k + 1) a c) = _ from prodL_s (kd f n) U k a c] at hr
        obtain ⟨o, ho⟩ : ∃ o : Int32, (if kd f n a = 31 then 4 else 5 : Int32) = o := ⟨_, rfl⟩
        rw [ho] at hr
        have go : ∀ (l3 : Option Value), (l3 = none ∨ ∃ z, l3 = some (.int z)) → (kd f n a = 31 ∨ kd f n a = 32) → bd (pass a) (fun a1 _ => bd (U a1) (fun a' c' => prodL (kd f n) U k a' (c ++ c' ++ [(o, 0)]))) = res → hV G (m_parseProduct_6 (hQp xEx none (rr 38 51 (some 58) y) σ τ (fun σ' => k7 σ σ' ∧ pEx f n sz res σ σ'))) 0 0 shp 47 [some (.ref (hgA G 7)), some (.int (nI 6)), some (.int (nI i)), some (.int o)] [] (rr 38 51 (some 58) y) σ1 τ := by
          intro l3 hl3 hop hr
          refine hv_aload_n dX4_parseProduct_47 rfl ?_
          refine hv_aload_n dX4_parseProduct_48 rfl ?_
          refine hv_geti dX4_parseProduct_49 fl_X4_29 (by first | rfl | assumption) rfl ?_
          refine hv_cv1 (c_pass tk1 hp2 (fun b w q => by cases q; omega)) dX4_parseProduct_52 ml_X4_63 mk_X4_take (by first | rfl | assumption) rfl rfl rfl rfl rfl ?_
          rintro _ _ σ2 _ ⟨rfl, rfl, rfl, r1, r2, r3⟩
          have r4 : pSt f n (pass a) σ2 := r3
          have hlw2 : pLw sz c σ σ2 := pLw_of hp3 (r1 58 (by decide)) (r1 59 (by decide)) (r1 60 (by decide))
          have hz2 : szOk (sz + c.length) (pass a) σ2 := ⟨hlw2.2.1, by omega, fun b w q => by have := pass_r q; omega⟩
          have tk2 : tokC f n σ2 := tokC_of tk1 r1 rfl
          refine hv_aload_n dX4_parseProduct_55 rfl ?_
          refine hv_iload_n dX4_parseProduct_56 rfl ?_
          refine hv_cv1 (call tk2 r4 hz2) dX4_parseProduct_57 ml_X4_94 mk_X4_parseUnit (by first | rfl | assumption) rfl rfl rfl rfl rfl ?_
          rintro _ _ σ3 _ ⟨rfl, rfl, rfl, t1, t2, t3, t9⟩
          have hso : okG (kd f n) a (fun a' c' => a + 1 < a' ∧ c'.length ≤ a' - (a + 1)) (bd (pass a) (fun a _ => U a)) := okG_bd _ (okG_pass _ ha4 (by omega)) (fun a1 _ _ a4 ea => by subst ea; exact hUo (a + 1) a4)
          rw [← bd_assoc] at hr
          obtain ⟨r5, hr5⟩ : ∃ r5, bd (pass a) (fun a _ => U a) = r5 := ⟨_, rfl⟩
          rw [hr5] at t3 t9 hso hr
          obtain ⟨z, hzz, hz4, hz6⟩ : ∃ z, σ3 58 5 = nI z ∧ z ≤ 410 ∧ ∀ a' c', r5 = .inr (a', c') → z = sz + c.length + c'.length ∧ z + 1 ≤ 10 + a' := by
            rcases r5 with e | ⟨a', c'⟩
            · obtain ⟨z, q1, q2⟩ := t9.2
              exact ⟨z, q2, q1, fun _ _ q => nomatch q⟩
            · have h9 := hso.2.2.2
              have h8 := hso.2.1
              exact ⟨sz + c.length + c'.length, t9.1.2.1, by omega, fun _ _ q => by cases q; exact ⟨rfl, by omega⟩⟩
          refine hv_aload_n dX4_parseProduct_60 rfl ?_
          refine hv_getr dX4_parseProduct_61 fl_X4_15 (by first | rfl | assumption) rfl (by first | rfl | assumption) ?_
          refine hv_iload_n dX4_parseProduct_64 rfl ?_
          refine hv_iconst (v := 0) dX4_parseProduct_65 (by decide) ?_
          refine hv_cv2 (c_lput hzz hz4) dX4_parseProduct_66 ml_X4_80 mk_X1_put (by first | rfl | assumption) rfl rfl rfl rfl rfl ?_
          rintro _ _ σ4 _ ⟨rfl, rfl, rfl, w1, w2⟩
          refine hv_pop dX4_parseProduct_69 rfl ?_
          refine hv_iinc dX4_parseProduct_70 rfl (nI_1 i) rfl rfl ?_
          refine hv_goto (tgt := 7) dX4_parseProduct_73 (by decide) ?_
          refine ih (i + 1) (bd r5 (fun a' c' => .inr (a', c ++ c' ++ [(o, 0)]))) res σ4 _ (by omega) (Or.inr ⟨_, rfl⟩) (off_tr (off_tr (off_tr hσ r1 (Z := xEx) (by decide) (by decide)) t1 (Z := xEx) (by decide) (by decide)) w1 (by decide) (by decide)) (k7_tr (k7_tr (k7_tr hk r2) t2) (fun j _ _ _ => by rw [w1 7 (by decide)])) ?_ (by rw [bd_assoc]; exact hr)
          rcases r5 with e | ⟨a', c'⟩
          · exact ⟨pSt_of t3 (w1 7 (by decide)), pLg_tr (fun j hj => (t9.1 j hj).trans (hlw2.1 j hj)) (pLg_p hzz hz4 w2)⟩
          · obtain ⟨e1, e2⟩ := hz6 a' c' rfl
            have h8 := hso.2.1
            subst e1
            exact ⟨pSt_of t3 (w1 7 (by decide)), pLw_tr (pLw_tr hlw2 t9.1) (by rw [List.length_append, ← Nat.add_assoc]; exact pLw_p1 (by omega) w2), by rw [List.length_append, List.length_append, List.length_singleton]; omega⟩
        rcases hl3 with rfl | ⟨z, rfl⟩
        · skip
          refine hv_iload_n dX4_parseProduct_7 rfl ?_
          refine hv_sipush (v := 400) dX4_parseProduct_8 (by decide) ?_
          refine hv_icmp_gt (tgt := 76) dX4_parseProduct_11 (by decide) (fun c_11 => absurd c_11 ((nI_nlt (a := 400) (by omega) (by decide)))) (fun c_11 => ?_)
          refine hv_aload_n dX4_parseProduct_14 rfl ?_
          refine hv_geti dX4_parseProduct_15 fl_X4_41 (by first | rfl | assumption) rfl ?_
          refine hv_if_ne (tgt := 76) dX4_parseProduct_18 (by decide) (fun c_18 => absurd (h1) c_18) (fun c_18 => ?_)
          refine hv_aload_n dX4_parseProduct_21 rfl ?_
          refine hv_bipush (v := 31) dX4_parseProduct_22 (by decide) ?_
          refine hv_bipush (v := 32) dX4_parseProduct_24 (by decide) ?_
          refine hv_cv2 (c_isOne) dX4_parseProduct_26 ml_X4_90 mk_X4_isOne (by first | rfl | assumption) rfl rfl rfl rfl rfl ?_
          rintro _ _ _ _ ⟨rfl, rfl, rfl, rfl⟩
          rw [h3]
          refine hv_if_eq (tgt := 76) dX4_parseProduct_29 (by decide) (fun c_29 => ?_) (fun c_29 => ?_)
          · have hop : ¬ (kd f n a = 31 ∨ kd f n a = 32) := fun q => of_decide_eq_false (bI_0 c_29) (by rcases q with q | q; exact Or.inl (by rw [q]; rfl); exact Or.inr (by rw [q]; rfl))
            rw [if_neg hop] at hr
            refine hv_vret dX4_parseProduct_76 rfl ?_
            rw [← hr]; exact ⟨rfl, rfl, rfl, hσ, hk, hp2, hp3, hp4⟩
          · have hop : kd f n a = 31 ∨ kd f n a = 32 := by
              rcases of_decide_eq_true (bI_1 c_29) with q | q
              · exact Or.inl ((nI_eq (b := 31) (by omega) (by decide)).mp q)
              · exact Or.inr ((nI_eq (b := 32) (by omega) (by decide)).mp q)
            rw [if_pos hop] at hr
            refine hv_aload_n dX4_parseProduct_32 rfl ?_
            refine hv_geti dX4_parseProduct_33 fl_X4_29 (by first | rfl | assumption) rfl ?_
            refine hv_bipush (v := 31) dX4_parseProduct_36 (by decide) ?_
            rw [h3]
            refine hv_icmp_ne (tgt := 45) dX4_parseProduct_38 (by decide) (fun c_38 => ?_) (fun c_38 => ?_)
            · rw [if_neg (fun q => c_38 (by rw [q]; rfl))] at ho
              refine hv_iconst (v := 5) dX4_parseProduct_45 (by decide) ?_
              refine hv_str (congrArg (fun z => [Value.int z]) ho) ?_
              refine hv_istore_n dX4_parseProduct_46 rfl rfl ?_
              exact go none (Or.inl rfl) hop hr
            · rw [if_pos ((nI_eq (b := 31) (by omega) (by decide)).mp c_38)] at ho
              refine hv_iconst (v := 4) dX4_parseProduct_41 (by decide) ?_
              refine hv_goto (tgt := 46) dX4_parseProduct_42 (by decide) ?_
              refine hv_str (congrArg (fun z => [Value.int z]) ho) ?_
              refine hv_istore_n dX4_parseProduct_46 rfl rfl ?_
              exact go none (Or.inl rfl) hop hr
        · skip
          refine hv_iload_n dX4_parseProduct_7 rfl ?_
          refine hv_sipush (v := 400) dX4_parseProduct_8 (by decide) ?_
          refine hv_icmp_gt (tgt := 76) dX4_parseProduct_11 (by decide) (fun c_11 => absurd c_11 ((nI_nlt (a := 400) (by omega) (by decide)))) (fun c_11 => ?_)
          refine hv_aload_n dX4_parseProduct_14 rfl ?_
          refine hv_geti dX4_parseProduct_15 fl_X4_41 (by first | rfl | assumption) rfl ?_
          refine hv_if_ne (tgt := 76) dX4_parseProduct_18 (by decide) (fun c_18 => absurd (h1) c_18) (fun c_18 => ?_)
          refine hv_aload_n dX4_parseProduct_21 rfl ?_
          refine hv_bipush (v := 31) dX4_parseProduct_22 (by decide) ?_
          refine hv_bipush (v := 32) dX4_parseProduct_24 (by decide) ?_
          refine hv_cv2 (c_isOne) dX4_parseProduct_26 ml_X4_90 mk_X4_isOne (by first | rfl | assumption) rfl rfl rfl rfl rfl ?_
          rintro _ _ _ _ ⟨rfl, rfl, rfl, rfl⟩
          rw [h3]
          refine hv_if_eq (tgt := 76) dX4_parseProduct_29 (by decide) (fun c_29 => ?_) (fun c_29 => ?_)
          · have hop : ¬ (kd f n a = 31 ∨ kd f n a = 32) := fun q => of_decide_eq_false (bI_0 c_29) (by rcases q with q | q; exact Or.inl (by rw [q]; rfl); exact Or.inr (by rw [q]; rfl))
            rw [if_neg hop] at hr
            refine hv_vret dX4_parseProduct_76 rfl ?_
            rw [← hr]; exact ⟨rfl, rfl, rfl, hσ, hk, hp2, hp3, hp4⟩
          · have hop : kd f n a = 31 ∨ kd f n a = 32 := by
              rcases of_decide_eq_true (bI_1 c_29) with q | q
              · exact Or.inl ((nI_eq (b := 31) (by omega) (by decide)).mp q)
              · exact Or.inr ((nI_eq (b := 32) (by omega) (by decide)).mp q)
            rw [if_pos hop] at hr
            refine hv_aload_n dX4_parseProduct_32 rfl ?_
            refine hv_geti dX4_parseProduct_33 fl_X4_29 (by first | rfl | assumption) rfl ?_
            refine hv_bipush (v := 31) dX4_parseProduct_36 (by decide) ?_
            rw [h3]
            refine hv_icmp_ne (tgt := 45) dX4_parseProduct_38 (by decide) (fun c_38 => ?_) (fun c_38 => ?_)
            · rw [if_neg (fun q => c_38 (by rw [q]; rfl))] at ho
              refine hv_iconst (v := 5) dX4_parseProduct_45 (by decide) ?_
              refine hv_str (congrArg (fun z => [Value.int z]) ho) ?_
              refine hv_istore_n dX4_parseProduct_46 rfl rfl ?_
              exact go none (Or.inl rfl) hop hr
            · rw [if_pos ((nI_eq (b := 31) (by omega) (by decide)).mp c_38)] at ho
              refine hv_iconst (v := 4) dX4_parseProduct_41 (by decide) ?_
              refine hv_goto (tgt := 46) dX4_parseProduct_42 (by decide) ?_
              refine hv_str (congrArg (fun z => [Value.int z]) ho) ?_
              refine hv_istore_n dX4_parseProduct_46 rfl rfl ?_
              exact go none (Or.inl rfl) hop hr
  refine hv_aload_n dX4_parseProduct_0 rfl ?_
  refine hv_iload_n dX4_parseProduct_1 rfl ?_
  refine hv_cv1 (call ht hs hz) dX4_parseProduct_2 ml_X4_94 mk_X4_parseUnit (by first | rfl | assumption) rfl rfl rfl rfl rfl ?_
  rintro _ _ σ1 _ ⟨rfl, rfl, rfl, q1, q2, q3⟩
  refine hv_iconst (v := 0) dX4_parseProduct_5 (by decide) ?_
  refine hv_istore_n dX4_parseProduct_6 rfl rfl ?_
  exact loop 401 0 (bd s (fun a _ => U a)) _ σ1 none (by omega) (Or.inl rfl) q1 q2 q3 (by rw [bd_assoc])
set_option maxRecDepth 100000 in
theorem c_parseSum_6 {f : hF} {n sz : Nat} {s : hPR Unit} (ht : tokC f n σ) (hs : pSt f n s σ) (hz : szOk sz s σ) : hCal G (m_parseSum_6 (hQp xEx none (rr 38 51 (some 58) y) σ τ (fun σ' => k7 σ σ' ∧ pEx f n sz (bd s (fun a _ => sumX (kd f n) (uX (kd f n) (vl f n) 0) a)) σ σ'))) [.ref (hgA G 7), .int (nI 6)] shp (rr 38 51 (some 58) y) σ τ := by
  refine hv_enter pn_X4 rfl ?_
  obtain ⟨U, hU⟩ : ∃ U : Nat → hPR hCd, prodX (kd f n) (uX (kd f n) (vl f n) 0) = U := ⟨_, rfl⟩
  have hUo : ∀ at', at' ≤ 400 → okG (kd f n) at' (fun a c => at' < a ∧ c.length ≤ a - at') (U at') := fun at' h => by
    rw [← hU]
    exact okG_mono _ (prodX_ok (kd f n) (uX_ok (kd f n) (vl f n) 0) at' h) (fun a c _ _ q => ⟨q.1.1, q.1.2.2.1⟩)
  have call : ∀ {s2 : hPR Unit} {σ2 : hS} {sz2 : Nat}, tokC f n σ2 → pSt f n s2 σ2 → szOk sz2 s2 σ2 → hCal G (m_parseProduct_6 (hQp xEx none (rr 38 51 (some 58) y) σ2 τ (fun σ' => k7 σ2 σ' ∧ pEx f n sz2 (bd s2 (fun a _ => U a)) σ2 σ'))) [.ref (hgA G 7), .int (nI 6)] shp (rr 38 51 (some 58) y) σ2 τ := fun h1 h2 h3 => by
    rw [← hU]; exact c_parseProduct_6 h1 h2 h3
  rw [show (fun a (_ : Unit) => sumX (kd f n) (uX (kd f n) (vl f n) 0) a) = (fun a _ => bd (U a) (fun a c => sumL (kd f n) U 401 a c)) from by rw [← hU]; rfl]
  have loop : ∀ k i r res (σ1 : hS) (l3 : Option Value), i + k = 401 → (l3 = none ∨ ∃ z, l3 = some (.int z)) → (∀ c, c ∉ xEx → σ1 c = σ c) → k7 σ σ1 → pEx f n sz r σ σ1 → bd r (fun a c => sumL (kd f n) U k a c) = res → hV G (m_parseSum_6 (hQp xEx none (rr 38 51 (some 58) y) σ τ (fun σ' => k7 σ σ' ∧ pEx f n sz res σ σ'))) 0 0 shp 7 [some (.ref (hgA G 7)), some (.int (nI 6)), some (.int (nI i)), l3] [] (rr 38 51 (some 58) y) σ1 τ := by
    intro k
    induction k with
    | zero =>
      intro i r res σ1 l3 hi hl3 hσ hk hp hr
      obtain rfl : i = 401 := by omega
      have hrr : r = res := by rw [← hr]; rcases r with e | ⟨a, c⟩ <;> rfl
      refine hv_iload_n dX4_parseSum_7 rfl ?_
      refine hv_sipush (v := 400) dX4_parseSum_8 (by decide) ?_
      refine hv_icmp_gt (tgt := 76) dX4_parseSum_11 (by decide) (fun c_11 => ?_) (fun c_11 => absurd ((by decide)) c_11)
      refine hv_vret dX4_parseSum_76 rfl ?_
      rw [← hrr]; exact ⟨rfl, rfl, rfl, hσ, hk, hp⟩
    | succ k ih =>
      intro i r res σ1 l3 hi hl3 hσ hk hp hr
      rcases r with ⟨z, t⟩ | ⟨a, c⟩
      · have hp2 := hp.1
        have h1 := hp2.1
        have hne : ¬ σ1 7 7 = 0 := by rw [h1]; exact nI_ne0 (by have := hp2.2.1; omega) (by have := hp2.2.1; omega)
        refine hv_iload_n dX4_parseSum_7 rfl ?_
        refine hv_sipush (v := 400) dX4_parseSum_8 (by decide) ?_
        refine hv_icmp_gt (tgt := 76) dX4_parseSum_11 (by decide) (fun c_11 => absurd c_11 ((nI_nlt (a := 400) (by omega) (by decide)))) (fun c_11 => ?_)
        refine hv_aload_n dX4_parseSum_14 rfl ?_
        refine hv_geti dX4_parseSum_15 fl_X4_41 (by first | rfl | assumption) rfl ?_
        refine hv_if_ne (tgt := 76) dX4_parseSum_18 (by decide) (fun c_18 => ?_) (fun c_18 => absurd c_18 (hne))
        refine hv_vret dX4_parseSum_76 rfl ?_
        rw [← hr]; exact ⟨rfl, rfl, rfl, hσ, hk, hp⟩
      · obtain ⟨hp2, hp3, hp4⟩ := hp
        have h1 := hp2.1
        have h3 := hp2.2.2.1
        have ha4 := hp2.2.2.2.1
        have hkl := kd_le f n a
        have tk1 : tokC f n σ1 := tokC_of ht hσ rfl
        rw [show bd (Sum.inr (a, c) : hPR hCd) (fun a c => sumL (kd f n) U (k + 1) a c) = _ from sumL_s (kd f n) U k a c] at hr
        obtain ⟨o, ho⟩ : ∃ o : Int32, (if kd f n a = 29 then 2 else 3 : Int32) = o := ⟨_, rfl⟩
        rw [ho] at hr
        have go : ∀ (l3 : Option Value), (l3 = none ∨ ∃ z, l3 = some (.int z)) → (kd f n a = 29 ∨ kd f n a = 30) → bd (pass a) (fun a1 _ => bd (U a1) (fun a' c' => sumL (kd f n) U k a' (c ++ c' ++ [(o, 0)]))) = res → hV G (m_parseSum_6 (hQp xEx none (rr 38 51 (some 58) y) σ τ (fun σ' => k7 σ σ' ∧ pEx f n sz res σ σ'))) 0 0 shp 47 [some (.ref (hgA G 7)), some (.int (nI 6)), some (.int (nI i)), some (.int o)] [] (rr 38 51 (some 58) y) σ1 τ := by
          intro l3 hl3 hop hr
          refine hv_aload_n dX4_parseSum_47 rfl ?_
          refine hv_aload_n dX4_parseSum_48 rfl ?_
          refine hv_geti dX4_parseSum_49 fl_X4_29 (by first | rfl | assumption) rfl ?_
          refine hv_cv1 (c_pass tk1 hp2 (fun b w q => by cases q; omega)) dX4_parseSum_52 ml_X4_63 mk_X4_take (by first | rfl | assumption) rfl rfl rfl rfl rfl ?_
          rintro _ _ σ2 _ ⟨rfl, rfl, rfl, r1, r2, r3⟩
          have r4 : pSt f n (pass a) σ2 := r3
          have hlw2 : pLw sz c σ σ2 := pLw_of hp3 (r1 58 (by decide)) (r1 59 (by decide)) (r1 60 (by decide))
          have hz2 : szOk (sz + c.length) (pass a) σ2 := ⟨hlw2.2.1, by omega, fun b w q => by have := pass_r q; omega⟩
          have tk2 : tokC f n σ2 := tokC_of tk1 r1 rfl
          refine hv_aload_n dX4_parseSum_55 rfl ?_
          refine hv_iload_n dX4_parseSum_56 rfl ?_
          refine hv_cv1 (call tk2 r4 hz2) dX4_parseSum_57 ml_X4_87 mk_X4_parseProduct (by first | rfl | assumption) rfl rfl rfl rfl rfl ?_
          rintro _ _ σ3 _ ⟨rfl, rfl, rfl, t1, t2, t3, t9⟩
          have hso : okG (kd f n) a (fun a' c' => a + 1 < a' ∧ c'.length ≤ a' - (a + 1)) (bd (pass a) (fun a _ => U a)) := okG_bd _ (okG_pass _ ha4 (by omega)) (fun a1 _ _ a4 ea => by subst ea; exact hUo (a + 1) a4)
          rw [← bd_assoc] at hr
          obtain ⟨r5, hr5⟩ : ∃ r5, bd (pass a) (fun a _ => U a) = r5 := ⟨_, rfl⟩
          rw [hr5] at t3 t9 hso hr
          obtain ⟨z, hzz, hz4, hz6⟩ : ∃ z, σ3 58 5 = nI z ∧ z ≤ 410 ∧ ∀ a' c', r5 = .inr (a', c') → z = sz + c.length + c'.length ∧ z + 1 ≤ 10 + a' := by
            rcases r5 with e | ⟨a', c'⟩
            · obtain ⟨z, q1, q2⟩ := t9.2
              exact ⟨z, q2, q1, fun _ _ q => nomatch q⟩
            · have h9 := hso.2.2.2
              have h8 := hso.2.1
              exact ⟨sz + c.length + c'.length, t9.1.2.1, by omega, fun _ _ q => by cases q; exact ⟨rfl, by omega⟩⟩
          refine hv_aload_n dX4_parseSum_60 rfl ?_
          refine hv_getr dX4_parseSum_61 fl_X4_15 (by first | rfl | assumption) rfl (by first | rfl | assumption) ?_
          refine hv_iload_n dX4_parseSum_64 rfl ?_
          refine hv_iconst (v := 0) dX4_parseSum_65 (by decide) ?_
          refine hv_cv2 (c_lput hzz hz4) dX4_parseSum_66 ml_X4_80 mk_X1_put (by first | rfl | assumption) rfl rfl rfl rfl rfl ?_
          rintro _ _ σ4 _ ⟨rfl, rfl, rfl, w1, w2⟩
          refine hv_pop dX4_parseSum_69 rfl ?_
          refine hv_iinc dX4_parseSum_70 rfl (nI_1 i) rfl rfl ?_
          refine hv_goto (tgt := 7) dX4_parseSum_73 (by decide) ?_
          refine ih (i + 1) (bd r5 (fun a' c' => .inr (a', c ++ c' ++ [(o, 0)]))) res σ4 _ (by omega) (Or.inr ⟨_, rfl⟩) (off_tr (off_tr (off_tr hσ r1 (Z := xEx) (by decide) (by decide)) t1 (Z := xEx) (by decide) (by decide)) w1 (by decide) (by decide)) (k7_tr (k7_tr (k7_tr hk r2) t2) (fun j _ _ _ => by rw [w1 7 (by decide)])) ?_ (by rw [bd_assoc]; exact hr)
          rcases r5 with e | ⟨a', c'⟩
          · exact ⟨pSt_of t3 (w1 7 (by decide)), pLg_tr (fun j hj => (t9.1 j hj).trans (hlw2.1 j hj)) (pLg_p hzz hz4 w2)⟩
          · obtain ⟨e1, e2⟩ := hz6 a' c' rfl
            have h8 := hso.2.1
            subst e1
            exact ⟨pSt_of t3 (w1 7 (by decide)), pLw_tr (pLw_tr hlw2 t9.1) (by rw [List.length_append, ← Nat.add_assoc]; exact pLw_p1 (by omega) w2), by rw [List.length_append, List.length_append, List.length_singleton]; omega⟩
        rcases hl3 with rfl | ⟨z, rfl⟩
        · skip
          refine hv_iload_n dX4_parseSum_7 rfl ?_
          refine hv_sipush (v := 400) dX4_parseSum_8 (by decide) ?_
          refine hv_icmp_gt (tgt := 76) dX4_parseSum_11 (by decide) (fun c_11 => absurd c_11 ((nI_nlt (a := 400) (by omega) (by decide)))) (fun c_11 => ?_)
          refine hv_aload_n dX4_parseSum_14 rfl ?_
          refine hv_geti dX4_parseSum_15 fl_X4_41 (by first | rfl | assumption) rfl ?_
          refine hv_if_ne (tgt := 76) dX4_parseSum_18 (by decide) (fun c_18 => absurd (h1) c_18) (fun c_18 => ?_)
          refine hv_aload_n dX4_parseSum_21 rfl ?_
          refine hv_bipush (v := 29) dX4_parseSum_22 (by decide) ?_
          refine hv_bipush (v := 30) dX4_parseSum_24 (by decide) ?_
          refine hv_cv2 (c_isOne) dX4_parseSum_26 ml_X4_90 mk_X4_isOne (by first | rfl | assumption) rfl rfl rfl rfl rfl ?_
          rintro _ _ _ _ ⟨rfl, rfl, rfl, rfl⟩
          rw [h3]
          refine hv_if_eq (tgt := 76) dX4_parseSum_29 (by decide) (fun c_29 => ?_) (fun c_29 => ?_)
          · have hop : ¬ (kd f n a = 29 ∨ kd f n a = 30) := fun q => of_decide_eq_false (bI_0 c_29) (by rcases q with q | q; exact Or.inl (by rw [q]; rfl); exact Or.inr (by rw [q]; rfl))
            rw [if_neg hop] at hr
            refine hv_vret dX4_parseSum_76 rfl ?_
            rw [← hr]; exact ⟨rfl, rfl, rfl, hσ, hk, hp2, hp3, hp4⟩
          · have hop : kd f n a = 29 ∨ kd f n a = 30 := by
              rcases of_decide_eq_true (bI_1 c_29) with q | q
              · exact Or.inl ((nI_eq (b := 29) (by omega) (by decide)).mp q)
              · exact Or.inr ((nI_eq (b := 30) (by omega) (by decide)).mp q)
            rw [if_pos hop] at hr
            refine hv_aload_n dX4_parseSum_32 rfl ?_
            refine hv_geti dX4_parseSum_33 fl_X4_29 (by first | rfl | assumption) rfl ?_
            refine hv_bipush (v := 29) dX4_parseSum_36 (by decide) ?_
            rw [h3]
            refine hv_icmp_ne (tgt := 45) dX4_parseSum_38 (by decide) (fun c_38 => ?_) (fun c_38 => ?_)
            · rw [if_neg (fun q => c_38 (by rw [q]; rfl))] at ho
              refine hv_iconst (v := 3) dX4_parseSum_45 (by decide) ?_
              refine hv_str (congrArg (fun z => [Value.int z]) ho) ?_
              refine hv_istore_n dX4_parseSum_46 rfl rfl ?_
              exact go none (Or.inl rfl) hop hr
            · rw [if_pos ((nI_eq (b := 29) (by omega) (by decide)).mp c_38)] at ho
              refine hv_iconst (v := 2) dX4_parseSum_41 (by decide) ?_
              refine hv_goto (tgt := 46) dX4_parseSum_42 (by decide) ?_
              refine hv_str (congrArg (fun z => [Value.int z]) ho) ?_
              refine hv_istore_n dX4_parseSum_46 rfl rfl ?_
              exact go none (Or.inl rfl) hop hr
        · skip
          refine hv_iload_n dX4_parseSum_7 rfl ?_
          refine hv_sipush (v := 400) dX4_parseSum_8 (by decide) ?_
          refine hv_icmp_gt (tgt := 76) dX4_parseSum_11 (by decide) (fun c_11 => absurd c_11 ((nI_nlt (a := 400) (by omega) (by decide)))) (fun c_11 => ?_)
          refine hv_aload_n dX4_parseSum_14 rfl ?_
          refine hv_geti dX4_parseSum_15 fl_X4_41 (by first | rfl | assumption) rfl ?_
          refine hv_if_ne (tgt := 76) dX4_parseSum_18 (by decide) (fun c_18 => absurd (h1) c_18) (fun c_18 => ?_)
          refine hv_aload_n dX4_parseSum_21 rfl ?_
          refine hv_bipush (v := 29) dX4_parseSum_22 (by decide) ?_
          refine hv_bipush (v := 30) dX4_parseSum_24 (by decide) ?_
          refine hv_cv2 (c_isOne) dX4_parseSum_26 ml_X4_90 mk_X4_isOne (by first | rfl | assumption) rfl rfl rfl rfl rfl ?_
          rintro _ _ _ _ ⟨rfl, rfl, rfl, rfl⟩
          rw [h3]
          refine hv_if_eq (tgt := 76) dX4_parseSum_29 (by decide) (fun c_29 => ?_) (fun c_29 => ?_)
          · have hop : ¬ (kd f n a = 29 ∨ kd f n a = 30) := fun q => of_decide_eq_false (bI_0 c_29) (by rcases q with q | q; exact Or.inl (by rw [q]; rfl); exact Or.inr (by rw [q]; rfl))
            rw [if_neg hop] at hr
            refine hv_vret dX4_parseSum_76 rfl ?_
            rw [← hr]; exact ⟨rfl, rfl, rfl, hσ, hk, hp2, hp3, hp4⟩
          · have hop : kd f n a = 29 ∨ kd f n a = 30 := by
              rcases of_decide_eq_true (bI_1 c_29) with q | q
              · exact Or.inl ((nI_eq (b := 29) (by omega) (by decide)).mp q)
              · exact Or.inr ((nI_eq (b := 30) (by omega) (by decide)).mp q)
            rw [if_pos hop] at hr
            refine hv_aload_n dX4_parseSum_32 rfl ?_
            refine hv_geti dX4_parseSum_33 fl_X4_29 (by first | rfl | assumption) rfl ?_
            refine hv_bipush (v := 29) dX4_parseSum_36 (by decide) ?_
            rw [h3]
            refine hv_icmp_ne (tgt := 45) dX4_parseSum_38 (by decide) (fun c_38 => ?_) (fun c_38 => ?_)
            · rw [if_neg (fun q => c_38 (by rw [q]; rfl))] at ho
              refine hv_iconst (v := 3) dX4_parseSum_45 (by decide) ?_
              refine hv_str (congrArg (fun z => [Value.int z]) ho) ?_
              refine hv_istore_n dX4_parseSum_46 rfl rfl ?_
              exact go none (Or.inl rfl) hop hr
            · rw [if_pos ((nI_eq (b := 29) (by omega) (by decide)).mp c_38)] at ho
              refine hv_iconst (v := 2) dX4_parseSum_41 (by decide) ?_
              refine hv_goto (tgt := 46) dX4_parseSum_42 (by decide) ?_
              refine hv_str (congrArg (fun z => [Value.int z]) ho) ?_
              refine hv_istore_n dX4_parseSum_46 rfl rfl ?_
              exact go none (Or.inl rfl) hop hr
  refine hv_aload_n dX4_parseSum_0 rfl ?_
  refine hv_iload_n dX4_parseSum_1 rfl ?_
  refine hv_cv1 (call ht hs hz) dX4_parseSum_2 ml_X4_87 mk_X4_parseProduct (by first | rfl | assumption) rfl rfl rfl rfl rfl ?_
  rintro _ _ σ1 _ ⟨rfl, rfl, rfl, q1, q2, q3⟩
  refine hv_iconst (v := 0) dX4_parseSum_5 (by decide) ?_
  refine hv_istore_n dX4_parseSum_6 rfl rfl ?_
  exact loop 401 0 (bd s (fun a _ => U a)) _ σ1 none (by omega) (Or.inl rfl) q1 q2 q3 (by rw [bd_assoc])
set_option maxRecDepth 100000 in
theorem c_parseUnit_5 {f : hF} {n sz : Nat} {s : hPR Unit} (ht : tokC f n σ) (hs : pSt f n s σ) (hz : szOk sz s σ) : hCal G (m_parseUnit_5 (hQp xEx none (rr 38 51 (some 58) y) σ τ (fun σ' => k7 σ σ' ∧ pEx f n sz (bd s (fun a _ => uX (kd f n) (vl f n) 1 a)) σ σ'))) [.ref (hgA G 7), .int (nI 5)] shp (rr 38 51 (some 58) y) σ τ := by
  refine hv_enter pn_X4 rfl ?_
  obtain ⟨z1, z2, z3⟩ := hz
  rcases s with ⟨z, t⟩ | ⟨a, u⟩
  · have h1 := hs.1
    have hne : ¬ σ 7 7 = 0 := by rw [h1]; exact nI_ne0 (by have := hs.2.1; omega) (by have := hs.2.1; omega)
    refine hv_aload_n dX4_parseUnit_0 rfl ?_
    refine hv_geti dX4_parseUnit_1 fl_X4_41 (by first | rfl | assumption) rfl ?_
    refine hv_if_eq (tgt := 8) dX4_parseUnit_4 (by decide) (fun c_4 => absurd c_4 (hne)) (fun c_4 => ?_)
    refine hv_vret dX4_parseUnit_7 rfl ?_
    exact ⟨rfl, rfl, rfl, fun _ _ => rfl, k7_rf, hs, fun _ _ => rfl, sz, z2, z1⟩
  · have hsz := z3 a u rfl
    have h1 := hs.1
    have h2 := hs.2.1
    have h3 := hs.2.2.1
    have h4 := hs.2.2.2
    have ha := h4.1
    have hkl := kd_le f n a
    have hu := uX_s (kd f n) (vl f n) 0 a
    rw [show bd (Sum.inr (a, u) : hPR Unit) (fun a _ => uX (kd f n) (vl f n) 1 a) = _ from hu]
    have leaf : ∀ (k o : Int32) (σ1 : hS), (∀ k, k ∉ [58, 59, 60] → σ1 k = σ k) → pPut sz k o σ σ1 → tokC f n σ1 ∧ pSt f n (.inr (a, u)) σ1 ∧ ∀ σ2 : hS, (∀ k, k ∉ [7] → σ2 k = σ1 k) → k7 σ1 σ2 → pSt f n (bd (Sum.inr (a, u) : hPR Unit) (fun a _ => pass a)) σ2 → (∀ c, c ∉ xEx → σ2 c = σ c) ∧ k7 σ σ2 ∧ pEx f n sz (bd (pass a) (fun a _ => .inr (a, [(k, o)]))) σ σ2 := by
      intro k o σ1 q1 q2
      refine ⟨tokC_of ht q1 rfl, pSt_of hs (q1 7 (by decide)), fun σ2 r1 r2 r3 => ⟨off_tr q1 r1 (by decide) (by decide), k7_tr (fun j _ _ _ => by rw [q1 7 (by decide)]) r2, ?_⟩⟩
      have r4 : pSt f n (pass a) σ2 := r3
      unfold pass at r4 ⊢
      by_cases c : a < 400
      · rw [if_pos c] at r4 ⊢
        exact ⟨r4, pLw_of (pLw_p1 (by omega) q2) (r1 58 (by decide)) (r1 59 (by decide)) (r1 60 (by decide)), by simp; omega⟩
      · rw [if_neg c] at r4 ⊢
        exact ⟨r4, pLg_of (pLg_p z1 z2 q2) (r1 58 (by decide))⟩
    have flt : ∀ v : Nat, (v = 1 ∨ v = 2) → pEx f n sz (.inl (v, a)) σ (va_up σ 7 (upd (σ 7) 7 (nI v))) := by
      intro v hv
      exact ⟨⟨by rw [hup_eq, pk_us], hv, by rw [hup_eq, pk_un (by decide)]; exact h2, h4⟩, fun j hj => by rw [hva_ne (by decide)], sz, z2, by rw [hva_ne (by decide)]; exact z1⟩
    refine hv_aload_n dX4_parseUnit_0 rfl ?_
    refine hv_geti dX4_parseUnit_1 fl_X4_41 (by first | rfl | assumption) rfl ?_
    refine hv_if_eq (tgt := 8) dX4_parseUnit_4 (by decide) (fun c_4 => ?_) (fun c_4 => absurd (h1) c_4)
    refine hv_aload_n dX4_parseUnit_8 rfl ?_
    refine hv_geti dX4_parseUnit_9 fl_X4_29 (by first | rfl | assumption) rfl ?_
    refine hv_bipush (v := 24) dX4_parseUnit_12 (by decide) ?_
    rw [h3]
    refine hv_icmp_ne (tgt := 48) dX4_parseUnit_14 (by decide) (fun c_14 => ?_) (fun c_14 => ?_)
    · have hk : ¬ kd f n a = 24 := fun q => c_14 (by rw [q]; rfl)
      rw [if_neg hk]
      refine hv_aload_n dX4_parseUnit_48 rfl ?_
      refine hv_geti dX4_parseUnit_49 fl_X4_29 (by first | rfl | assumption) rfl ?_
      refine hv_bipush (v := 14) dX4_parseUnit_52 (by decide) ?_
      rw [h3]
      refine hv_icmp_lt (tgt := 93) dX4_parseUnit_54 (by decide) (fun c_54 => ?_) (fun c_54 => ?_)
      · have hv : ¬ (14 ≤ kd f n a ∧ kd f n a ≤ 22) := fun q => by have := (nI_ltI (b := 14) (by omega) (by decide)).mp c_54; omega
        rw [if_neg hv]
        refine hv_aload_n dX4_parseUnit_93 rfl ?_
        refine hv_geti dX4_parseUnit_94 fl_X4_29 (by first | rfl | assumption) rfl ?_
        refine hv_bipush (v := 34) dX4_parseUnit_97 (by decide) ?_
        rw [h3]
        refine hv_icmp_eq (tgt := 110) dX4_parseUnit_99 (by decide) (fun c_99 => ?_) (fun c_99 => ?_)
        · have ho : kd f n a = 34 := (nI_eq (b := 34) (by omega) (by decide)).mp c_99
          rw [if_pos ho]
          refine hv_iload_n dX4_parseUnit_110 rfl ?_
          refine hv_bipush (v := 6) dX4_parseUnit_111 (by decide) ?_
          refine hv_icmp_lt (tgt := 124) dX4_parseUnit_113 (by decide) (fun c_113 => ?_) (fun c_113 => absurd ((by decide)) c_113)
          refine hv_aload_n dX4_parseUnit_124 rfl ?_
          refine hv_aload_n dX4_parseUnit_125 rfl ?_
          refine hv_geti dX4_parseUnit_126 fl_X4_29 (by first | rfl | assumption) rfl ?_
          refine hv_cv1 (c_pass ht hs (fun b w q => by cases q; rw [ho]; decide)) dX4_parseUnit_129 ml_X4_63 mk_X4_take (by first | rfl | assumption) rfl rfl rfl rfl rfl ?_
          rintro _ _ σ2 _ ⟨rfl, rfl, rfl, r1, r2, r3⟩
          have r4 : pSt f n (pass a) σ2 := r3
          have hz2 : szOk sz (pass a) σ2 := ⟨by rw [r1 58 (by decide)]; exact z1, z2, fun b w q => by have := pass_r q; omega⟩
          refine hv_aload_n dX4_parseUnit_132 rfl ?_
          refine hv_iload_n dX4_parseUnit_133 rfl ?_
          refine hv_iconst (v := 1) dX4_parseUnit_134 (by decide) ?_
          refine hv_iadd dX4_parseUnit_135 ?_
          refine hv_cv1 (c_parseSum_6 (tokC_of ht r1 rfl) r4 hz2) dX4_parseUnit_136 ml_X4_77 mk_X4_parseSum (by first | rfl | assumption) rfl rfl rfl rfl rfl ?_
          rintro _ _ σ3 _ ⟨rfl, rfl, rfl, t1, t2, t3, t9⟩
          obtain ⟨r5, hr5⟩ : ∃ r5, bd (pass a) (fun a _ => sumX (kd f n) (uX (kd f n) (vl f n) 0) a) = r5 := ⟨_, rfl⟩
          rw [hr5] at t3 t9
          rw [← bd_assoc, hr5]
          have t4 : tokC f n σ3 := tokC_of (tokC_of ht r1 rfl) t1 rfl
          refine hv_aload_n dX4_parseUnit_139 rfl ?_
          refine hv_bipush (v := 35) dX4_parseUnit_140 (by decide) ?_
          refine hv_cv1 (c_take (k := 35) t4 t3 (by decide) (by decide)) dX4_parseUnit_142 ml_X4_63 mk_X4_take (by first | rfl | assumption) rfl rfl rfl rfl rfl ?_
          rintro _ _ σ4 _ ⟨rfl, rfl, rfl, w1, w2, w3⟩
          refine hv_vret dX4_parseUnit_145 rfl ?_
          first
            | exact ⟨rfl, rfl, rfl, m1, m2, m3⟩
            | exact ⟨rfl, rfl, rfl, off_up (fun _ _ => rfl) (by decide), fun j j1 j2 j3 => by rw [hup_eq, pk_un j3], flt 1 (Or.inl rfl)⟩
            | (refine ⟨rfl, rfl, rfl, off_tr (off_tr r1 t1 (Z := xEx) (by decide) (by decide)) w1 (by decide) (by decide), k7_tr (k7_tr r2 t2) w2, ?_⟩
               have e2 : ∀ j, j ≠ 5 → σ2 58 j = σ 58 j := fun j _ => by rw [r1 58 (by decide)]
               rcases r5 with e | ⟨a', c'⟩
               · exact ⟨w3, pLg_of (pLg_tr e2 t9) (w1 58 (by decide))⟩
               · obtain ⟨u1, u2⟩ := t9
                 have hw : pSt f n (tk (kd f n) 35 a') σ4 := w3
                 have hlw : pLw sz c' σ σ4 := pLw_of (pLw_tr (c := []) (pLw_0 z1 (r1 58 (by decide)) (r1 59 (by decide)) (r1 60 (by decide))) u1) (w1 58 (by decide)) (w1 59 (by decide)) (w1 60 (by decide))
                 show pEx f n sz (bd (tk (kd f n) 35 a') (fun a'' _ => .inr (a'', c'))) σ σ4
                 have ha' : a' ≤ 400 := t3.2.2.2.1
                 rcases hr6 : tk (kd f n) 35 a' with e | ⟨a'', u'⟩
                 · rw [hr6] at hw
                   exact ⟨hw, pLw_lg hlw (by omega)⟩
                 · rw [hr6] at hw
                   have ha2 := (tk_r hr6).2.2
                   exact ⟨by cases u'; exact hw, hlw, by omega⟩)
        · have ho : ¬ kd f n a = 34 := fun q => c_99 (by rw [q]; rfl)
          rw [if_neg ho]
          refine hv_aload_n dX4_parseUnit_102 rfl ?_
          refine hv_iconst (v := 1) dX4_parseUnit_103 (by decide) ?_
          refine hv_cv1 (c_pfail) dX4_parseUnit_104 ml_X4_60 mk_X4_fail (by first | rfl | assumption) rfl rfl rfl rfl rfl ?_
          rintro _ _ _ _ ⟨rfl, rfl, rfl, rfl⟩
          rw [if_pos h1]
          refine hv_goto (tgt := 145) dX4_parseUnit_107 (by decide) ?_
          refine hv_vret dX4_parseUnit_145 rfl ?_
          first
            | exact ⟨rfl, rfl, rfl, m1, m2, m3⟩
            | exact ⟨rfl, rfl, rfl, off_up (fun _ _ => rfl) (by decide), fun j j1 j2 j3 => by rw [hup_eq, pk_un j3], flt 1 (Or.inl rfl)⟩
            | (refine ⟨rfl, rfl, rfl, off_tr (off_tr r1 t1 (Z := xEx) (by decide) (by decide)) w1 (by decide) (by decide), k7_tr (k7_tr r2 t2) w2, ?_⟩
               have e2 : ∀ j, j ≠ 5 → σ2 58 j = σ 58 j := fun j _ => by rw [r1 58 (by decide)]
               rcases r5 with e | ⟨a', c'⟩
               · exact ⟨w3, pLg_of (pLg_tr e2 t9) (w1 58 (by decide))⟩
               · obtain ⟨u1, u2⟩ := t9
                 have hw : pSt f n (tk (kd f n) 35 a') σ4 := w3
                 have hlw : pLw sz c' σ σ4 := pLw_of (pLw_tr (c := []) (pLw_0 z1 (r1 58 (by decide)) (r1 59 (by decide)) (r1 60 (by decide))) u1) (w1 58 (by decide)) (w1 59 (by decide)) (w1 60 (by decide))
                 show pEx f n sz (bd (tk (kd f n) 35 a') (fun a'' _ => .inr (a'', c'))) σ σ4
                 have ha' : a' ≤ 400 := t3.2.2.2.1
                 rcases hr6 : tk (kd f n) 35 a' with e | ⟨a'', u'⟩
                 · rw [hr6] at hw
                   exact ⟨hw, pLw_lg hlw (by omega)⟩
                 · rw [hr6] at hw
                   have ha2 := (tk_r hr6).2.2
                   exact ⟨by cases u'; exact hw, hlw, by omega⟩)
      · refine hv_aload_n dX4_parseUnit_57 rfl ?_
        refine hv_geti dX4_parseUnit_58 fl_X4_29 (by first | rfl | assumption) rfl ?_
        refine hv_bipush (v := 22) dX4_parseUnit_61 (by decide) ?_
        rw [h3]
        refine hv_icmp_gt (tgt := 93) dX4_parseUnit_63 (by decide) (fun c_63 => ?_) (fun c_63 => ?_)
        · have hv : ¬ (14 ≤ kd f n a ∧ kd f n a ≤ 22) := fun q => by have := (nI_ltI (a := 22) (by decide) (by omega)).mp c_63; omega
          rw [if_neg hv]
          refine hv_aload_n dX4_parseUnit_93 rfl ?_
          refine hv_geti dX4_parseUnit_94 fl_X4_29 (by first | rfl | assumption) rfl ?_
          refine hv_bipush (v := 34) dX4_parseUnit_97 (by decide) ?_
          rw [h3]
          refine hv_icmp_eq (tgt := 110) dX4_parseUnit_99 (by decide) (fun c_99 => ?_) (fun c_99 => ?_)
          · have ho : kd f n a = 34 := (nI_eq (b := 34) (by omega) (by decide)).mp c_99
            rw [if_pos ho]
            refine hv_iload_n dX4_parseUnit_110 rfl ?_
            refine hv_bipush (v := 6) dX4_parseUnit_111 (by decide) ?_
            refine hv_icmp_lt (tgt := 124) dX4_parseUnit_113 (by decide) (fun c_113 => ?_) (fun c_113 => absurd ((by decide)) c_113)
            refine hv_aload_n dX4_parseUnit_124 rfl ?_
            refine hv_aload_n dX4_parseUnit_125 rfl ?_
            refine hv_geti dX4_parseUnit_126 fl_X4_29 (by first | rfl | assumption) rfl ?_
            refine hv_cv1 (c_pass ht hs (fun b w q => by cases q; rw [ho]; decide)) dX4_parseUnit_129 ml_X4_63 mk_X4_take (by first | rfl | assumption) rfl rfl rfl rfl rfl ?_
            rintro _ _ σ2 _ ⟨rfl, rfl, rfl, r1, r2, r3⟩
            have r4 : pSt f n (pass a) σ2 := r3
            have hz2 : szOk sz (pass a) σ2 := ⟨by rw [r1 58 (by decide)]; exact z1, z2, fun b w q => by have := pass_r q; omega⟩
            refine hv_aload_n dX4_parseUnit_132 rfl ?_
            refine hv_iload_n dX4_parseUnit_133 rfl ?_
            refine hv_iconst (v := 1) dX4_parseUnit_134 (by decide) ?_
            refine hv_iadd dX4_parseUnit_135 ?_
            refine hv_cv1 (c_parseSum_6 (tokC_of ht r1 rfl) r4 hz2) dX4_parseUnit_136 ml_X4_77 mk_X4_parseSum (by first | rfl | assumption) rfl rfl rfl rfl rfl ?_
            rintro _ _ σ3 _ ⟨rfl, rfl, rfl, t1, t2, t3, t9⟩
            obtain ⟨r5, hr5⟩ : ∃ r5, bd (pass a) (fun a _ => sumX (kd f n) (uX (kd f n) (vl f n) 0) a) = r5 := ⟨_, rfl⟩
            rw [hr5] at t3 t9
            rw [← bd_assoc, hr5]
            have t4 : tokC f n σ3 := tokC_of (tokC_of ht r1 rfl) t1 rfl
            refine hv_aload_n dX4_parseUnit_139 rfl ?_
            refine hv_bipush (v := 35) dX4_parseUnit_140 (by decide) ?_
            refine hv_cv1 (c_take (k := 35) t4 t3 (by decide) (by decide)) dX4_parseUnit_142 ml_X4_63 mk_X4_take (by first | rfl | assumption) rfl rfl rfl rfl rfl ?_
            rintro _ _ σ4 _ ⟨rfl, rfl, rfl, w1, w2, w3⟩
            refine hv_vret dX4_parseUnit_145 rfl ?_
            first
              | exact ⟨rfl, rfl, rfl, m1, m2, m3⟩
              | exact ⟨rfl, rfl, rfl, off_up (fun _ _ => rfl) (by decide), fun j j1 j2 j3 => by rw [hup_eq, pk_un j3], flt 1 (Or.inl rfl)⟩
              | (refine ⟨rfl, rfl, rfl, off_tr (off_tr r1 t1 (Z := xEx) (by decide) (by decide)) w1 (by decide) (by decide), k7_tr (k7_tr r2 t2) w2, ?_⟩
                 have e2 : ∀ j, j ≠ 5 → σ2 58 j = σ 58 j := fun j _ => by rw [r1 58 (by decide)]
                 rcases r5 with e | ⟨a', c'⟩
                 · exact ⟨w3, pLg_of (pLg_tr e2 t9) (w1 58 (by decide))⟩
                 · obtain ⟨u1, u2⟩ := t9
                   have hw : pSt f n (tk (kd f n) 35 a') σ4 := w3
                   have hlw : pLw sz c' σ σ4 := pLw_of (pLw_tr (c := []) (pLw_0 z1 (r1 58 (by decide)) (r1 59 (by decide)) (r1 60 (by decide))) u1) (w1 58 (by decide)) (w1 59 (by decide)) (w1 60 (by decide))
                   show pEx f n sz (bd (tk (kd f n) 35 a') (fun a'' _ => .inr (a'', c'))) σ σ4
                   have ha' : a' ≤ 400 := t3.2.2.2.1
                   rcases hr6 : tk (kd f n) 35 a' with e | ⟨a'', u'⟩
                   · rw [hr6] at hw
                     exact ⟨hw, pLw_lg hlw (by omega)⟩
                   · rw [hr6] at hw
                     have ha2 := (tk_r hr6).2.2
                     exact ⟨by cases u'; exact hw, hlw, by omega⟩)
          · have ho : ¬ kd f n a = 34 := fun q => c_99 (by rw [q]; rfl)
            rw [if_neg ho]
            refine hv_aload_n dX4_parseUnit_102 rfl ?_
            refine hv_iconst (v := 1) dX4_parseUnit_103 (by decide) ?_
            refine hv_cv1 (c_pfail) dX4_parseUnit_104 ml_X4_60 mk_X4_fail (by first | rfl | assumption) rfl rfl rfl rfl rfl ?_
            rintro _ _ _ _ ⟨rfl, rfl, rfl, rfl⟩
            rw [if_pos h1]
            refine hv_goto (tgt := 145) dX4_parseUnit_107 (by decide) ?_
            refine hv_vret dX4_parseUnit_145 rfl ?_
            first
              | exact ⟨rfl, rfl, rfl, m1, m2, m3⟩
              | exact ⟨rfl, rfl, rfl, off_up (fun _ _ => rfl) (by decide), fun j j1 j2 j3 => by rw [hup_eq, pk_un j3], flt 1 (Or.inl rfl)⟩
              | (refine ⟨rfl, rfl, rfl, off_tr (off_tr r1 t1 (Z := xEx) (by decide) (by decide)) w1 (by decide) (by decide), k7_tr (k7_tr r2 t2) w2, ?_⟩
                 have e2 : ∀ j, j ≠ 5 → σ2 58 j = σ 58 j := fun j _ => by rw [r1 58 (by decide)]
                 rcases r5 with e | ⟨a', c'⟩
                 · exact ⟨w3, pLg_of (pLg_tr e2 t9) (w1 58 (by decide))⟩
                 · obtain ⟨u1, u2⟩ := t9
                   have hw : pSt f n (tk (kd f n) 35 a') σ4 := w3
                   have hlw : pLw sz c' σ σ4 := pLw_of (pLw_tr (c := []) (pLw_0 z1 (r1 58 (by decide)) (r1 59 (by decide)) (r1 60 (by decide))) u1) (w1 58 (by decide)) (w1 59 (by decide)) (w1 60 (by decide))
                   show pEx f n sz (bd (tk (kd f n) 35 a') (fun a'' _ => .inr (a'', c'))) σ σ4
                   have ha' : a' ≤ 400 := t3.2.2.2.1
                   rcases hr6 : tk (kd f n) 35 a' with e | ⟨a'', u'⟩
                   · rw [hr6] at hw
                     exact ⟨hw, pLw_lg hlw (by omega)⟩
                   · rw [hr6] at hw
                     have ha2 := (tk_r hr6).2.2
                     exact ⟨by cases u'; exact hw, hlw, by omega⟩)
        · have hv : 14 ≤ kd f n a ∧ kd f n a ≤ 22 := ⟨(nI_leI (a := 14) (by decide) (by omega)).mp (Int32.not_lt.mp c_54), (nI_leI (b := 22) (by omega) (by decide)).mp (Int32.not_lt.mp c_63)⟩
          rw [if_pos hv]
          refine hv_aload_n dX4_parseUnit_66 rfl ?_
          refine hv_getr dX4_parseUnit_67 fl_X4_15 (by first | rfl | assumption) rfl (by first | rfl | assumption) ?_
          refine hv_iconst (v := 1) dX4_parseUnit_70 (by decide) ?_
          refine hv_aload_n dX4_parseUnit_71 rfl ?_
          refine hv_geti dX4_parseUnit_72 fl_X4_29 (by first | rfl | assumption) rfl ?_
          refine hv_bipush (v := 14) dX4_parseUnit_75 (by decide) ?_
          rw [h3]
          refine hv_isub dX4_parseUnit_77 ?_
          rw [show nI (kd f n a) - 14 = nI (kd f n a - 14) from pk_sub (b := 14) hv.1]
          refine hv_cv2 (c_lput z1 z2) dX4_parseUnit_78 ml_X4_80 mk_X1_put (by first | rfl | assumption) rfl rfl rfl rfl rfl ?_
          rintro _ _ σ1 _ ⟨rfl, rfl, rfl, q1, q2⟩
          obtain ⟨l1, l2, l3⟩ := leaf _ _ σ1 q1 q2
          refine hv_pop dX4_parseUnit_81 rfl ?_
          refine hv_aload_n dX4_parseUnit_82 rfl ?_
          refine hv_aload_n dX4_parseUnit_83 rfl ?_
          refine hv_geti dX4_parseUnit_84 fl_X4_29 (by first | rfl | assumption) rfl ?_
          refine hv_cv1 (c_pass l1 l2 (fun b w q => by cases q; omega)) dX4_parseUnit_87 ml_X4_63 mk_X4_take (by first | rfl | assumption) rfl rfl rfl rfl rfl ?_
          rintro _ _ σ2 _ ⟨rfl, rfl, rfl, r1, r2, r3⟩
          obtain ⟨m1, m2, m3⟩ := l3 σ2 r1 r2 r3
          refine hv_goto (tgt := 145) dX4_parseUnit_90 (by decide) ?_
          refine hv_vret dX4_parseUnit_145 rfl ?_
          first
            | exact ⟨rfl, rfl, rfl, m1, m2, m3⟩
            | exact ⟨rfl, rfl, rfl, off_up (fun _ _ => rfl) (by decide), fun j j1 j2 j3 => by rw [hup_eq, pk_un j3], flt 1 (Or.inl rfl)⟩
            | (refine ⟨rfl, rfl, rfl, off_tr (off_tr r1 t1 (Z := xEx) (by decide) (by decide)) w1 (by decide) (by decide), k7_tr (k7_tr r2 t2) w2, ?_⟩
               have e2 : ∀ j, j ≠ 5 → σ2 58 j = σ 58 j := fun j _ => by rw [r1 58 (by decide)]
               rcases r5 with e | ⟨a', c'⟩
               · exact ⟨w3, pLg_of (pLg_tr e2 t9) (w1 58 (by decide))⟩
               · obtain ⟨u1, u2⟩ := t9
                 have hw : pSt f n (tk (kd f n) 35 a') σ4 := w3
                 have hlw : pLw sz c' σ σ4 := pLw_of (pLw_tr (c := []) (pLw_0 z1 (r1 58 (by decide)) (r1 59 (by decide)) (r1 60 (by decide))) u1) (w1 58 (by decide)) (w1 59 (by decide)) (w1 60 (by decide))
                 show pEx f n sz (bd (tk (kd f n) 35 a') (fun a'' _ => .inr (a'', c'))) σ σ4
                 have ha' : a' ≤ 400 := t3.2.2.2.1
                 rcases hr6 : tk (kd f n) 35 a' with e | ⟨a'', u'⟩
                 · rw [hr6] at hw
                   exact ⟨hw, pLw_lg hlw (by omega)⟩
                 · rw [hr6] at hw
                   have ha2 := (tk_r hr6).2.2
                   exact ⟨by cases u'; exact hw, hlw, by omega⟩)
    · have hk : kd f n a = 24 := (nI_eq (b := 24) (by omega) (by decide)).mp c_14
      rw [if_pos hk]
      refine hv_aload_n dX4_parseUnit_17 rfl ?_
      refine hv_getr dX4_parseUnit_18 fl_X4_15 (by first | rfl | assumption) rfl (by first | rfl | assumption) ?_
      refine hv_iconst (v := 0) dX4_parseUnit_21 (by decide) ?_
      refine hv_aload_n dX4_parseUnit_22 rfl ?_
      refine hv_getr dX4_parseUnit_23 fl_X4_9 (by first | rfl | assumption) rfl (by first | rfl | assumption) ?_
      refine hv_aload_n dX4_parseUnit_26 rfl ?_
      refine hv_geti dX4_parseUnit_27 fl_X4_19 (by first | rfl | assumption) rfl ?_
      rw [h2]
      refine hv_cv1 (c_tvalue ht h4) dX4_parseUnit_30 ml_X4_97 mk_X9_value (by first | rfl | assumption) rfl rfl rfl rfl rfl ?_
      rintro _ _ _ _ ⟨rfl, rfl, rfl, rfl⟩
      refine hv_cv2 (c_lput z1 z2) dX4_parseUnit_33 ml_X4_80 mk_X1_put (by first | rfl | assumption) rfl rfl rfl rfl rfl ?_
      rintro _ _ σ1 _ ⟨rfl, rfl, rfl, q1, q2⟩
      obtain ⟨l1, l2, l3⟩ := leaf _ _ σ1 q1 q2
      refine hv_pop dX4_parseUnit_36 rfl ?_
      refine hv_aload_n dX4_parseUnit_37 rfl ?_
      refine hv_aload_n dX4_parseUnit_38 rfl ?_
      refine hv_geti dX4_parseUnit_39 fl_X4_29 (by first | rfl | assumption) rfl ?_
      refine hv_cv1 (c_pass l1 l2 (fun b w q => by cases q; rw [hk]; decide)) dX4_parseUnit_42 ml_X4_63 mk_X4_take (by first | rfl | assumption) rfl rfl rfl rfl rfl ?_
      rintro _ _ σ2 _ ⟨rfl, rfl, rfl, r1, r2, r3⟩
      obtain ⟨m1, m2, m3⟩ := l3 σ2 r1 r2 r3
      refine hv_goto (tgt := 145) dX4_parseUnit_45 (by decide) ?_
      refine hv_vret dX4_parseUnit_145 rfl ?_
      first
        | exact ⟨rfl, rfl, rfl, m1, m2, m3⟩
        | exact ⟨rfl, rfl, rfl, off_up (fun _ _ => rfl) (by decide), fun j j1 j2 j3 => by rw [hup_eq, pk_un j3], flt 1 (Or.inl rfl)⟩
        | (refine ⟨rfl, rfl, rfl, off_tr (off_tr r1 t1 (Z := xEx) (by decide) (by decide)) w1 (by decide) (by decide), k7_tr (k7_tr r2 t2) w2, ?_⟩
           have e2 : ∀ j, j ≠ 5 → σ2 58 j = σ 58 j := fun j _ => by rw [r1 58 (by decide)]
           rcases r5 with e | ⟨a', c'⟩
           · exact ⟨w3, pLg_of (pLg_tr e2 t9) (w1 58 (by decide))⟩
           · obtain ⟨u1, u2⟩ := t9
             have hw : pSt f n (tk (kd f n) 35 a') σ4 := w3
             have hlw : pLw sz c' σ σ4 := pLw_of (pLw_tr (c := []) (pLw_0 z1 (r1 58 (by decide)) (r1 59 (by decide)) (r1 60 (by decide))) u1) (w1 58 (by decide)) (w1 59 (by decide)) (w1 60 (by decide))
             show pEx f n sz (bd (tk (kd f n) 35 a') (fun a'' _ => .inr (a'', c'))) σ σ4
             have ha' : a' ≤ 400 := t3.2.2.2.1
             rcases hr6 : tk (kd f n) 35 a' with e | ⟨a'', u'⟩
             · rw [hr6] at hw
               exact ⟨hw, pLw_lg hlw (by omega)⟩
             · rw [hr6] at hw
               have ha2 := (tk_r hr6).2.2
               exact ⟨by cases u'; exact hw, hlw, by omega⟩)
set_option maxRecDepth 100000 in
theorem c_parseProduct_5 {f : hF} {n sz : Nat} {s : hPR Unit} (ht : tokC f n σ) (hs : pSt f n s σ) (hz : szOk sz s σ) : hCal G (m_parseProduct_5 (hQp xEx none (rr 38 51 (some 58) y) σ τ (fun σ' => k7 σ σ' ∧ pEx f n sz (bd s (fun a _ => prodX (kd f n) (uX (kd f n) (vl f n) 1) a)) σ σ'))) [.ref (hgA G 7), .int (nI 5)] shp (rr 38 51 (some 58) y) σ τ := by
  refine hv_enter pn_X4 rfl ?_
  obtain ⟨U, hU⟩ : ∃ U : Nat → hPR hCd, uX (kd f n) (vl f n) 1 = U := ⟨_, rfl⟩
  have hUo : ∀ at', at' ≤ 400 → okG (kd f n) at' (fun a c => at' < a ∧ c.length ≤ a - at') (U at') := fun at' h => by
    rw [← hU]
    exact okG_mono _ (uX_ok (kd f n) (vl f n) 1 at' h) (fun a c _ _ q => ⟨q.1, q.2.2.1⟩)
  have call : ∀ {s2 : hPR Unit} {σ2 : hS} {sz2 : Nat}, tokC f n σ2 → pSt f n s2 σ2 → szOk sz2 s2 σ2 → hCal G (m_parseUnit_5 (hQp xEx none (rr 38 51 (some 58) y) σ2 τ (fun σ' => k7 σ2 σ' ∧ pEx f n sz2 (bd s2 (fun a _ => U a)) σ2 σ'))) [.ref (hgA G 7), .int (nI 5)] shp (rr 38 51 (some 58) y) σ2 τ := fun h1 h2 h3 => by
    rw [← hU]; exact c_parseUnit_5 h1 h2 h3
  rw [show (fun a (_ : Unit) => prodX (kd f n) (uX (kd f n) (vl f n) 1) a) = (fun a _ => bd (U a) (fun a c => prodL (kd f n) U 401 a c)) from by rw [← hU]; rfl]
  have loop : ∀ k i r res (σ1 : hS) (l3 : Option Value), i + k = 401 → (l3 = none ∨ ∃ z, l3 = some (.int z)) → (∀ c, c ∉ xEx → σ1 c = σ c) → k7 σ σ1 → pEx f n sz r σ σ1 → bd r (fun a c => prodL (kd f n) U k a c) = res → hV G (m_parseProduct_5 (hQp xEx none (rr 38 51 (some 58) y) σ τ (fun σ' => k7 σ σ' ∧ pEx f n sz res σ σ'))) 0 0 shp 7 [some (.ref (hgA G 7)), some (.int (nI 5)), some (.int (nI i)), l3] [] (rr 38 51 (some 58) y) σ1 τ := by
    intro k
    induction k with
    | zero =>
      intro i r res σ1 l3 hi hl3 hσ hk hp hr
      obtain rfl : i = 401 := by omega
      have hrr : r = res := by rw [← hr]; rcases r with e | ⟨a, c⟩ <;> rfl
      refine hv_iload_n dX4_parseProduct_7 rfl ?_
      refine hv_sipush (v := 400) dX4_parseProduct_8 (by decide) ?_
      refine hv_icmp_gt (tgt := 76) dX4_parseProduct_11 (by decide) (fun c_11 => ?_) (fun c_11 => absurd ((by decide)) c_11)
      refine hv_vret dX4_parseProduct_76 rfl ?_
      rw [← hrr]; exact ⟨rfl, rfl, rfl, hσ, hk, hp⟩
    | succ k ih =>
      intro i r res σ1 l3 hi hl3 hσ hk hp hr
      rcases r with ⟨z, t⟩ | ⟨a, c⟩
      · have hp2 := hp.1
        have h1 := hp2.1
        have hne : ¬ σ1 7 7 = 0 := by rw [h1]; exact nI_ne0 (by have := hp2.2.1; omega) (by have := hp2.2.1; omega)
        refine hv_iload_n dX4_parseProduct_7 rfl ?_
        refine hv_sipush (v := 400) dX4_parseProduct_8 (by decide) ?_
        refine hv_icmp_gt (tgt := 76) dX4_parseProduct_11 (by decide) (fun c_11 => absurd c_11 ((nI_nlt (a := 400) (by omega) (by decide)))) (fun c_11 => ?_)
        refine hv_aload_n dX4_parseProduct_14 rfl ?_
        refine hv_geti dX4_parseProduct_15 fl_X4_41 (by first | rfl | assumption) rfl ?_
        refine hv_if_ne (tgt := 76) dX4_parseProduct_18 (by decide) (fun c_18 => ?_) (fun c_18 => absurd c_18 (hne))
        refine hv_vret dX4_parseProduct_76 rfl ?_
        rw [← hr]; exact ⟨rfl, rfl, rfl, hσ, hk, hp⟩
      · obtain ⟨hp2, hp3, hp4⟩ := hp
        have h1 := hp2.1
        have h3 := hp2.2.2.1
        have ha4 := hp2.2.2.2.1
        have hkl := kd_le f n a
        have tk1 : tokC f n σ1 := tokC_of ht hσ rfl
        rw [show bd (Sum.inr (a, c) : hPR hCd) (fun a c => prodL (kd f n) U (k + 1) a c) = _ from prodL_s (kd f n) U k a c] at hr
        obtain ⟨o, ho⟩ : ∃ o : Int32, (if kd f n a = 31 then 4 else 5 : Int32) = o := ⟨_, rfl⟩
        rw [ho] at hr
        have go : ∀ (l3 : Option Value), (l3 = none ∨ ∃ z, l3 = some (.int z)) → (kd f n a = 31 ∨ kd f n a = 32) → bd (pass a) (fun a1 _ => bd (U a1) (fun a' c' => prodL (kd f n) U k a' (c ++ c' ++ [(o, 0)]))) = res → hV G (m_parseProduct_5 (hQp xEx none (rr 38 51 (some 58) y) σ τ (fun σ' => k7 σ σ' ∧ pEx f n sz res σ σ'))) 0 0 shp 47 [some (.ref (hgA G 7)), some (.int (nI 5)), some (.int (nI i)), some (.int o)] [] (rr 38 51 (some 58) y) σ1 τ := by
          intro l3 hl3 hop hr
          refine hv_aload_n dX4_parseProduct_47 rfl ?_
          refine hv_aload_n dX4_parseProduct_48 rfl ?_
          refine hv_geti dX4_parseProduct_49 fl_X4_29 (by first | rfl | assumption) rfl ?_
          refine hv_cv1 (c_pass tk1 hp2 (fun b w q => by cases q; omega)) dX4_parseProduct_52 ml_X4_63 mk_X4_take (by first | rfl | assumption) rfl rfl rfl rfl rfl ?_
          rintro _ _ σ2 _ ⟨rfl, rfl, rfl, r1, r2, r3⟩
          have r4 : pSt f n (pass a) σ2 := r3
          have hlw2 : pLw sz c σ σ2 := pLw_of hp3 (r1 58 (by decide)) (r1 59 (by decide)) (r1 60 (by decide))
          have hz2 : szOk (sz + c.length) (pass a) σ2 := ⟨hlw2.2.1, by omega, fun b w q => by have := pass_r q; omega⟩
          have tk2 : tokC f n σ2 := tokC_of tk1 r1 rfl
          refine hv_aload_n dX4_parseProduct_55 rfl ?_
          refine hv_iload_n dX4_parseProduct_56 rfl ?_
          refine hv_cv1 (call tk2 r4 hz2) dX4_parseProduct_57 ml_X4_94 mk_X4_parseUnit (by first | rfl | assumption) rfl rfl rfl rfl rfl ?_
          rintro _ _ σ3 _ ⟨rfl, rfl, rfl, t1, t2, t3, t9⟩
          have hso : okG (kd f n) a (fun a' c' => a + 1 < a' ∧ c'.length ≤ a' - (a + 1)) (bd (pass a) (fun a _ => U a)) := okG_bd _ (okG_pass _ ha4 (by omega)) (fun a1 _ _ a4 ea => by subst ea; exact hUo (a + 1) a4)
          rw [← bd_assoc] at hr
          obtain ⟨r5, hr5⟩ : ∃ r5, bd (pass a) (fun a _ => U a) = r5 := ⟨_, rfl⟩
          rw [hr5] at t3 t9 hso hr
          obtain ⟨z, hzz, hz4, hz6⟩ : ∃ z, σ3 58 5 = nI z ∧ z ≤ 410 ∧ ∀ a' c', r5 = .inr (a', c') → z = sz + c.length + c'.length ∧ z + 1 ≤ 10 + a' := by
            rcases r5 with e | ⟨a', c'⟩
            · obtain ⟨z, q1, q2⟩ := t9.2
              exact ⟨z, q2, q1, fun _ _ q => nomatch q⟩
            · have h9 := hso.2.2.2
              have h8 := hso.2.1
              exact ⟨sz + c.length + c'.length, t9.1.2.1, by omega, fun _ _ q => by cases q; exact ⟨rfl, by omega⟩⟩
          refine hv_aload_n dX4_parseProduct_60 rfl ?_
          refine hv_getr dX4_parseProduct_61 fl_X4_15 (by first | rfl | assumption) rfl (by first | rfl | assumption) ?_
          refine hv_iload_n dX4_parseProduct_64 rfl ?_
          refine hv_iconst (v := 0) dX4_parseProduct_65 (by decide) ?_
          refine hv_cv2 (c_lput hzz hz4) dX4_parseProduct_66 ml_X4_80 mk_X1_put (by first | rfl | assumption) rfl rfl rfl rfl rfl ?_
          rintro _ _ σ4 _ ⟨rfl, rfl, rfl, w1, w2⟩
          refine hv_pop dX4_parseProduct_69 rfl ?_
          refine hv_iinc dX4_parseProduct_70 rfl (nI_1 i) rfl rfl ?_
          refine hv_goto (tgt := 7) dX4_parseProduct_73 (by decide) ?_
          refine ih (i + 1) (bd r5 (fun a' c' => .inr (a', c ++ c' ++ [(o, 0)]))) res σ4 _ (by omega) (Or.inr ⟨_, rfl⟩) (off_tr (off_tr (off_tr hσ r1 (Z := xEx) (by decide) (by decide)) t1 (Z := xEx) (by decide) (by decide)) w1 (by decide) (by decide)) (k7_tr (k7_tr (k7_tr hk r2) t2) (fun j _ _ _ => by rw [w1 7 (by decide)])) ?_ (by rw [bd_assoc]; exact hr)
          rcases r5 with e | ⟨a', c'⟩
          · exact ⟨pSt_of t3 (w1 7 (by decide)), pLg_tr (fun j hj => (t9.1 j hj).trans (hlw2.1 j hj)) (pLg_p hzz hz4 w2)⟩
          · obtain ⟨e1, e2⟩ := hz6 a' c' rfl
            have h8 := hso.2.1
            subst e1
            exact ⟨pSt_of t3 (w1 7 (by decide)), pLw_tr (pLw_tr hlw2 t9.1) (by rw [List.length_append, ← Nat.add_assoc]; exact pLw_p1 (by omega) w2), by rw [List.length_append, List.length_append, List.length_singleton]; omega⟩
        rcases hl3 with rfl | ⟨z, rfl⟩
        · skip
          refine hv_iload_n dX4_parseProduct_7 rfl ?_
          refine hv_sipush (v := 400) dX4_parseProduct_8 (by decide) ?_
          refine hv_icmp_gt (tgt := 76) dX4_parseProduct_11 (by decide) (fun c_11 => absurd c_11 ((nI_nlt (a := 400) (by omega) (by decide)))) (fun c_11 => ?_)
          refine hv_aload_n dX4_parseProduct_14 rfl ?_
          refine hv_geti dX4_parseProduct_15 fl_X4_41 (by first | rfl | assumption) rfl ?_
          refine hv_if_ne (tgt := 76) dX4_parseProduct_18 (by decide) (fun c_18 => absurd (h1) c_18) (fun c_18 => ?_)
          refine hv_aload_n dX4_parseProduct_21 rfl ?_
          refine hv_bipush (v := 31) dX4_parseProduct_22 (by decide) ?_
          refine hv_bipush (v := 32) dX4_parseProduct_24 (by decide) ?_
          refine hv_cv2 (c_isOne) dX4_parseProduct_26 ml_X4_90 mk_X4_isOne (by first | rfl | assumption) rfl rfl rfl rfl rfl ?_
          rintro _ _ _ _ ⟨rfl, rfl, rfl, rfl⟩
          rw [h3]
          refine hv_if_eq (tgt := 76) dX4_parseProduct_29 (by decide) (fun c_29 => ?_) (fun c_29 => ?_)
          · have hop : ¬ (kd f n a = 31 ∨ kd f n a = 32) := fun q => of_decide_eq_false (bI_0 c_29) (by rcases q with q | q; exact Or.inl (by rw [q]; rfl); exact Or.inr (by rw [q]; rfl))
            rw [if_neg hop] at hr
            refine hv_vret dX4_parseProduct_76 rfl ?_
            rw [← hr]; exact ⟨rfl, rfl, rfl, hσ, hk, hp2, hp3, hp4⟩
          · have hop : kd f n a = 31 ∨ kd f n a = 32 := by
              rcases of_decide_eq_true (bI_1 c_29) with q | q
              · exact Or.inl ((nI_eq (b := 31) (by omega) (by decide)).mp q)
              · exact Or.inr ((nI_eq (b := 32) (by omega) (by decide)).mp q)
            rw [if_pos hop] at hr
            refine hv_aload_n dX4_parseProduct_32 rfl ?_
            refine hv_geti dX4_parseProduct_33 fl_X4_29 (by first | rfl | assumption) rfl ?_
            refine hv_bipush (v := 31) dX4_parseProduct_36 (by decide) ?_
            rw [h3]
            refine hv_icmp_ne (tgt := 45) dX4_parseProduct_38 (by decide) (fun c_38 => ?_) (fun c_38 => ?_)
            · rw [if_neg (fun q => c_38 (by rw [q]; rfl))] at ho
              refine hv_iconst (v := 5) dX4_parseProduct_45 (by decide) ?_
              refine hv_str (congrArg (fun z => [Value.int z]) ho) ?_
              refine hv_istore_n dX4_parseProduct_46 rfl rfl ?_
              exact go none (Or.inl rfl) hop hr
            · rw [if_pos ((nI_eq (b := 31) (by omega) (by decide)).mp c_38)] at ho
              refine hv_iconst (v := 4) dX4_parseProduct_41 (by decide) ?_
              refine hv_goto (tgt := 46) dX4_parseProduct_42 (by decide) ?_
              refine hv_str (congrArg (fun z => [Value.int z]) ho) ?_
              refine hv_istore_n dX4_parseProduct_46 rfl rfl ?_
              exact go none (Or.inl rfl) hop hr
        · skip
          refine hv_iload_n dX4_parseProduct_7 rfl ?_
          refine hv_sipush (v := 400) dX4_parseProduct_8 (by decide) ?_
          refine hv_icmp_gt (tgt := 76) dX4_parseProduct_11 (by decide) (fun c_11 => absurd c_11 ((nI_nlt (a := 400) (by omega) (by decide)))) (fun c_11 => ?_)
          refine hv_aload_n dX4_parseProduct_14 rfl ?_
          refine hv_geti dX4_parseProduct_15 fl_X4_41 (by first | rfl | assumption) rfl ?_
          refine hv_if_ne (tgt := 76) dX4_parseProduct_18 (by decide) (fun c_18 => absurd (h1) c_18) (fun c_18 => ?_)
          refine hv_aload_n dX4_parseProduct_21 rfl ?_
          refine hv_bipush (v := 31) dX4_parseProduct_22 (by decide) ?_
          refine hv_bipush (v := 32) dX4_parseProduct_24 (by decide) ?_
          refine hv_cv2 (c_isOne) dX4_parseProduct_26 ml_X4_90 mk_X4_isOne (by first | rfl | assumption) rfl rfl rfl rfl rfl ?_
          rintro _ _ _ _ ⟨rfl, rfl, rfl, rfl⟩
          rw [h3]
          refine hv_if_eq (tgt := 76) dX4_parseProduct_29 (by decide) (fun c_29 => ?_) (fun c_29 => ?_)
          · have hop : ¬ (kd f n a = 31 ∨ kd f n a = 32) := fun q => of_decide_eq_false (bI_0 c_29) (by rcases q with q | q; exact Or.inl (by rw [q]; rfl); exact Or.inr (by rw [q]; rfl))
            rw [if_neg hop] at hr
            refine hv_vret dX4_parseProduct_76 rfl ?_
            rw [← hr]; exact ⟨rfl, rfl, rfl, hσ, hk, hp2, hp3, hp4⟩
          · have hop : kd f n a = 31 ∨ kd f n a = 32 := by
              rcases of_decide_eq_true (bI_1 c_29) with q | q
              · exact Or.inl ((nI_eq (b := 31) (by omega) (by decide)).mp q)
              · exact Or.inr ((nI_eq (b := 32) (by omega) (by decide)).mp q)
            rw [if_pos hop] at hr
            refine hv_aload_n dX4_parseProduct_32 rfl ?_
            refine hv_geti dX4_parseProduct_33 fl_X4_29 (by first | rfl | assumption) rfl ?_
            refine hv_bipush (v := 31) dX4_parseProduct_36 (by decide) ?_
            rw [h3]
            refine hv_icmp_ne (tgt := 45) dX4_parseProduct_38 (by decide) (fun c_38 => ?_) (fun c_38 => ?_)
            · rw [if_neg (fun q => c_38 (by rw [q]; rfl))] at ho
              refine hv_iconst (v := 5) dX4_parseProduct_45 (by decide) ?_
              refine hv_str (congrArg (fun z => [Value.int z]) ho) ?_
              refine hv_istore_n dX4_parseProduct_46 rfl rfl ?_
              exact go none (Or.inl rfl) hop hr
            · rw [if_pos ((nI_eq (b := 31) (by omega) (by decide)).mp c_38)] at ho
              refine hv_iconst (v := 4) dX4_parseProduct_41 (by decide) ?_
              refine hv_goto (tgt := 46) dX4_parseProduct_42 (by decide) ?_
              refine hv_str (congrArg (fun z => [Value.int z]) ho) ?_
              refine hv_istore_n dX4_parseProduct_46 rfl rfl ?_
              exact go none (Or.inl rfl) hop hr
  refine hv_aload_n dX4_parseProduct_0 rfl ?_
  refine hv_iload_n dX4_parseProduct_1 rfl ?_
  refine hv_cv1 (call ht hs hz) dX4_parseProduct_2 ml_X4_94 mk_X4_parseUnit (by first | rfl | assumption) rfl rfl rfl rfl rfl ?_
  rintro _ _ σ1 _ ⟨rfl, rfl, rfl, q1, q2, q3⟩
  refine hv_iconst (v := 0) dX4_parseProduct_5 (by decide) ?_
  refine hv_istore_n dX4_parseProduct_6 rfl rfl ?_
  exact loop 401 0 (bd s (fun a _ => U a)) _ σ1 none (by omega) (Or.inl rfl) q1 q2 q3 (by rw [bd_assoc])
set_option maxRecDepth 100000 in
theorem c_parseSum_5 {f : hF} {n sz : Nat} {s : hPR Unit} (ht : tokC f n σ) (hs : pSt f n s σ) (hz : szOk sz s σ) : hCal G (m_parseSum_5 (hQp xEx none (rr 38 51 (some 58) y) σ τ (fun σ' => k7 σ σ' ∧ pEx f n sz (bd s (fun a _ => sumX (kd f n) (uX (kd f n) (vl f n) 1) a)) σ σ'))) [.ref (hgA G 7), .int (nI 5)] shp (rr 38 51 (some 58) y) σ τ := by
  refine hv_enter pn_X4 rfl ?_
  obtain ⟨U, hU⟩ : ∃ U : Nat → hPR hCd, prodX (kd f n) (uX (kd f n) (vl f n) 1) = U := ⟨_, rfl⟩
  have hUo : ∀ at', at' ≤ 400 → okG (kd f n) at' (fun a c => at' < a ∧ c.length ≤ a - at') (U at') := fun at' h => by
    rw [← hU]
    exact okG_mono _ (prodX_ok (kd f n) (uX_ok (kd f n) (vl f n) 1) at' h) (fun a c _ _ q => ⟨q.1.1, q.1.2.2.1⟩)
  have call : ∀ {s2 : hPR Unit} {σ2 : hS} {sz2 : Nat}, tokC f n σ2 → pSt f n s2 σ2 → szOk sz2 s2 σ2 → hCal G (m_parseProduct_5 (hQp xEx none (rr 38 51 (some 58) y) σ2 τ (fun σ' => k7 σ2 σ' ∧ pEx f n sz2 (bd s2 (fun a _ => U a)) σ2 σ'))) [.ref (hgA G 7), .int (nI 5)] shp (rr 38 51 (some 58) y) σ2 τ := fun h1 h2 h3 => by
    rw [← hU]; exact c_parseProduct_5 h1 h2 h3
  rw [show (fun a (_ : Unit) => sumX (kd f n) (uX (kd f n) (vl f n) 1) a) = (fun a _ => bd (U a) (fun a c => sumL (kd f n) U 401 a c)) from by rw [← hU]; rfl]
  have loop : ∀ k i r res (σ1 : hS) (l3 : Option Value), i + k = 401 → (l3 = none ∨ ∃ z, l3 = some (.int z)) → (∀ c, c ∉ xEx → σ1 c = σ c) → k7 σ σ1 → pEx f n sz r σ σ1 → bd r (fun a c => sumL (kd f n) U k a c) = res → hV G (m_parseSum_5 (hQp xEx none (rr 38 51 (some 58) y) σ τ (fun σ' => k7 σ σ' ∧ pEx f n sz res σ σ'))) 0 0 shp 7 [some (.ref (hgA G 7)), some (.int (nI 5)), some (.int (nI i)), l3] [] (rr 38 51 (some 58) y) σ1 τ := by
    intro k
    induction k with
    | zero =>
      intro i r res σ1 l3 hi hl3 hσ hk hp hr
      obtain rfl : i = 401 := by omega
      have hrr : r = res := by rw [← hr]; rcases r with e | ⟨a, c⟩ <;> rfl
      refine hv_iload_n dX4_parseSum_7 rfl ?_
      refine hv_sipush (v := 400) dX4_parseSum_8 (by decide) ?_
      refine hv_icmp_gt (tgt := 76) dX4_parseSum_11 (by decide) (fun c_11 => ?_) (fun c_11 => absurd ((by decide)) c_11)
      refine hv_vret dX4_parseSum_76 rfl ?_
      rw [← hrr]; exact ⟨rfl, rfl, rfl, hσ, hk, hp⟩
    | succ k ih =>
      intro i r res σ1 l3 hi hl3 hσ hk hp hr
      rcases r with ⟨z, t⟩ | ⟨a, c⟩
      · have hp2 := hp.1
        have h1 := hp2.1
        have hne : ¬ σ1 7 7 = 0 := by rw [h1]; exact nI_ne0 (by have := hp2.2.1; omega) (by have := hp2.2.1; omega)
        refine hv_iload_n dX4_parseSum_7 rfl ?_
        refine hv_sipush (v := 400) dX4_parseSum_8 (by decide) ?_
        refine hv_icmp_gt (tgt := 76) dX4_parseSum_11 (by decide) (fun c_11 => absurd c_11 ((nI_nlt (a := 400) (by omega) (by decide)))) (fun c_11 => ?_)
        refine hv_aload_n dX4_parseSum_14 rfl ?_
        refine hv_geti dX4_parseSum_15 fl_X4_41 (by first | rfl | assumption) rfl ?_
        refine hv_if_ne (tgt := 76) dX4_parseSum_18 (by decide) (fun c_18 => ?_) (fun c_18 => absurd c_18 (hne))
        refine hv_vret dX4_parseSum_76 rfl ?_
        rw [← hr]; exact ⟨rfl, rfl, rfl, hσ, hk, hp⟩
      · obtain ⟨hp2, hp3, hp4⟩ := hp
        have h1 := hp2.1
        have h3 := hp2.2.2.1
        have ha4 := hp2.2.2.2.1
        have hkl := kd_le f n a
        have tk1 : tokC f n σ1 := tokC_of ht hσ rfl
        rw [show bd (Sum.inr (a, c) : hPR hCd) (fun a c => sumL (kd f n) U (k + 1) a c) = _ from sumL_s (kd f n) U k a c] at hr
        obtain ⟨o, ho⟩ : ∃ o : Int32, (if kd f n a = 29 then 2 else 3 : Int32) = o := ⟨_, rfl⟩
        rw [ho] at hr
        have go : ∀ (l3 : Option Value), (l3 = none ∨ ∃ z, l3 = some (.int z)) → (kd f n a = 29 ∨ kd f n a = 30) → bd (pass a) (fun a1 _ => bd (U a1) (fun a' c' => sumL (kd f n) U k a' (c ++ c' ++ [(o, 0)]))) = res → hV G (m_parseSum_5 (hQp xEx none (rr 38 51 (some 58) y) σ τ (fun σ' => k7 σ σ' ∧ pEx f n sz res σ σ'))) 0 0 shp 47 [some (.ref (hgA G 7)), some (.int (nI 5)), some (.int (nI i)), some (.int o)] [] (rr 38 51 (some 58) y) σ1 τ := by
          intro l3 hl3 hop hr
          refine hv_aload_n dX4_parseSum_47 rfl ?_
          refine hv_aload_n dX4_parseSum_48 rfl ?_
          refine hv_geti dX4_parseSum_49 fl_X4_29 (by first | rfl | assumption) rfl ?_
          refine hv_cv1 (c_pass tk1 hp2 (fun b w q => by cases q; omega)) dX4_parseSum_52 ml_X4_63 mk_X4_take (by first | rfl | assumption) rfl rfl rfl rfl rfl ?_
          rintro _ _ σ2 _ ⟨rfl, rfl, rfl, r1, r2, r3⟩
          have r4 : pSt f n (pass a) σ2 := r3
          have hlw2 : pLw sz c σ σ2 := pLw_of hp3 (r1 58 (by decide)) (r1 59 (by decide)) (r1 60 (by decide))
          have hz2 : szOk (sz + c.length) (pass a) σ2 := ⟨hlw2.2.1, by omega, fun b w q => by have := pass_r q; omega⟩
          have tk2 : tokC f n σ2 := tokC_of tk1 r1 rfl
          refine hv_aload_n dX4_parseSum_55 rfl ?_
          refine hv_iload_n dX4_parseSum_56 rfl ?_
          refine hv_cv1 (call tk2 r4 hz2) dX4_parseSum_57 ml_X4_87 mk_X4_parseProduct (by first | rfl | assumption) rfl rfl rfl rfl rfl ?_
          rintro _ _ σ3 _ ⟨rfl, rfl, rfl, t1, t2, t3, t9⟩
          have hso : okG (kd f n) a (fun a' c' => a + 1 < a' ∧ c'.length ≤ a' - (a + 1)) (bd (pass a) (fun a _ => U a)) := okG_bd _ (okG_pass _ ha4 (by omega)) (fun a1 _ _ a4 ea => by subst ea; exact hUo (a + 1) a4)
          rw [← bd_assoc] at hr
          obtain ⟨r5, hr5⟩ : ∃ r5, bd (pass a) (fun a _ => U a) = r5 := ⟨_, rfl⟩
          rw [hr5] at t3 t9 hso hr
          obtain ⟨z, hzz, hz4, hz6⟩ : ∃ z, σ3 58 5 = nI z ∧ z ≤ 410 ∧ ∀ a' c', r5 = .inr (a', c') → z = sz + c.length + c'.length ∧ z + 1 ≤ 10 + a' := by
            rcases r5 with e | ⟨a', c'⟩
            · obtain ⟨z, q1, q2⟩ := t9.2
              exact ⟨z, q2, q1, fun _ _ q => nomatch q⟩
            · have h9 := hso.2.2.2
              have h8 := hso.2.1
              exact ⟨sz + c.length + c'.length, t9.1.2.1, by omega, fun _ _ q => by cases q; exact ⟨rfl, by omega⟩⟩
          refine hv_aload_n dX4_parseSum_60 rfl ?_
          refine hv_getr dX4_parseSum_61 fl_X4_15 (by first | rfl | assumption) rfl (by first | rfl | assumption) ?_
          refine hv_iload_n dX4_parseSum_64 rfl ?_
          refine hv_iconst (v := 0) dX4_parseSum_65 (by decide) ?_
          refine hv_cv2 (c_lput hzz hz4) dX4_parseSum_66 ml_X4_80 mk_X1_put (by first | rfl | assumption) rfl rfl rfl rfl rfl ?_
          rintro _ _ σ4 _ ⟨rfl, rfl, rfl, w1, w2⟩
          refine hv_pop dX4_parseSum_69 rfl ?_
          refine hv_iinc dX4_parseSum_70 rfl (nI_1 i) rfl rfl ?_
          refine hv_goto (tgt := 7) dX4_parseSum_73 (by decide) ?_
          refine ih (i + 1) (bd r5 (fun a' c' => .inr (a', c ++ c' ++ [(o, 0)]))) res σ4 _ (by omega) (Or.inr ⟨_, rfl⟩) (off_tr (off_tr (off_tr hσ r1 (Z := xEx) (by decide) (by decide)) t1 (Z := xEx) (by decide) (by decide)) w1 (by decide) (by decide)) (k7_tr (k7_tr (k7_tr hk r2) t2) (fun j _ _ _ => by rw [w1 7 (by decide)])) ?_ (by rw [bd_assoc]; exact hr)
          rcases r5 with e | ⟨a', c'⟩
          · exact ⟨pSt_of t3 (w1 7 (by decide)), pLg_tr (fun j hj => (t9.1 j hj).trans (hlw2.1 j hj)) (pLg_p hzz hz4 w2)⟩
          · obtain ⟨e1, e2⟩ := hz6 a' c' rfl
            have h8 := hso.2.1
            subst e1
            exact ⟨pSt_of t3 (w1 7 (by decide)), pLw_tr (pLw_tr hlw2 t9.1) (by rw [List.length_append, ← Nat.add_assoc]; exact pLw_p1 (by omega) w2), by rw [List.length_append, List.length_append, List.length_singleton]; omega⟩
        rcases hl3 with rfl | ⟨z, rfl⟩
        · skip
          refine hv_iload_n dX4_parseSum_7 rfl ?_
          refine hv_sipush (v := 400) dX4_parseSum_8 (by decide) ?_
          refine hv_icmp_gt (tgt := 76) dX4_parseSum_11 (by decide) (fun c_11 => absurd c_11 ((nI_nlt (a := 400) (by omega) (by decide)))) (fun c_11 => ?_)
          refine hv_aload_n dX4_parseSum_14 rfl ?_
          refine hv_geti dX4_parseSum_15 fl_X4_41 (by first | rfl | assumption) rfl ?_
          refine hv_if_ne (tgt := 76) dX4_parseSum_18 (by decide) (fun c_18 => absurd (h1) c_18) (fun c_18 => ?_)
          refine hv_aload_n dX4_parseSum_21 rfl ?_
          refine hv_bipush (v := 29) dX4_parseSum_22 (by decide) ?_
          refine hv_bipush (v := 30) dX4_parseSum_24 (by decide) ?_
          refine hv_cv2 (c_isOne) dX4_parseSum_26 ml_X4_90 mk_X4_isOne (by first | rfl | assumption) rfl rfl rfl rfl rfl ?_
          rintro _ _ _ _ ⟨rfl, rfl, rfl, rfl⟩
          rw [h3]
          refine hv_if_eq (tgt := 76) dX4_parseSum_29 (by decide) (fun c_29 => ?_) (fun c_29 => ?_)
          · have hop : ¬ (kd f n a = 29 ∨ kd f n a = 30) := fun q => of_decide_eq_false (bI_0 c_29) (by rcases q with q | q; exact Or.inl (by rw [q]; rfl); exact Or.inr (by rw [q]; rfl))
            rw [if_neg hop] at hr
            refine hv_vret dX4_parseSum_76 rfl ?_
            rw [← hr]; exact ⟨rfl, rfl, rfl, hσ, hk, hp2, hp3, hp4⟩
          · have hop : kd f n a = 29 ∨ kd f n a = 30 := by
              rcases of_decide_eq_true (bI_1 c_29) with q | q
              · exact Or.inl ((nI_eq (b := 29) (by omega) (by decide)).mp q)
              · exact Or.inr ((nI_eq (b := 30) (by omega) (by decide)).mp q)
            rw [if_pos hop] at hr
            refine hv_aload_n dX4_parseSum_32 rfl ?_
            refine hv_geti dX4_parseSum_33 fl_X4_29 (by first | rfl | assumption) rfl ?_
            refine hv_bipush (v := 29) dX4_parseSum_36 (by decide) ?_
            rw [h3]
            refine hv_icmp_ne (tgt := 45) dX4_parseSum_38 (by decide) (fun c_38 => ?_) (fun c_38 => ?_)
            · rw [if_neg (fun q => c_38 (by rw [q]; rfl))] at ho
              refine hv_iconst (v := 3) dX4_parseSum_45 (by decide) ?_
              refine hv_str (congrArg (fun z => [Value.int z]) ho) ?_
              refine hv_istore_n dX4_parseSum_46 rfl rfl ?_
              exact go none (Or.inl rfl) hop hr
            · rw [if_pos ((nI_eq (b := 29) (by omega) (by decide)).mp c_38)] at ho
              refine hv_iconst (v := 2) dX4_parseSum_41 (by decide) ?_
              refine hv_goto (tgt := 46) dX4_parseSum_42 (by decide) ?_
              refine hv_str (congrArg (fun z => [Value.int z]) ho) ?_
              refine hv_istore_n dX4_parseSum_46 rfl rfl ?_
              exact go none (Or.inl rfl) hop hr
        · skip
          refine hv_iload_n dX4_parseSum_7 rfl ?_
          refine hv_sipush (v := 400) dX4_parseSum_8 (by decide) ?_
          refine hv_icmp_gt (tgt := 76) dX4_parseSum_11 (by decide) (fun c_11 => absurd c_11 ((nI_nlt (a := 400) (by omega) (by decide)))) (fun c_11 => ?_)
          refine hv_aload_n dX4_parseSum_14 rfl ?_
          refine hv_geti dX4_parseSum_15 fl_X4_41 (by first | rfl | assumption) rfl ?_
          refine hv_if_ne (tgt := 76) dX4_parseSum_18 (by decide) (fun c_18 => absurd (h1) c_18) (fun c_18 => ?_)
          refine hv_aload_n dX4_parseSum_21 rfl ?_
          refine hv_bipush (v := 29) dX4_parseSum_22 (by decide) ?_
          refine hv_bipush (v := 30) dX4_parseSum_24 (by decide) ?_
          refine hv_cv2 (c_isOne) dX4_parseSum_26 ml_X4_90 mk_X4_isOne (by first | rfl | assumption) rfl rfl rfl rfl rfl ?_
          rintro _ _ _ _ ⟨rfl, rfl, rfl, rfl⟩
          rw [h3]
          refine hv_if_eq (tgt := 76) dX4_parseSum_29 (by decide) (fun c_29 => ?_) (fun c_29 => ?_)
          · have hop : ¬ (kd f n a = 29 ∨ kd f n a = 30) := fun q => of_decide_eq_false (bI_0 c_29) (by rcases q with q | q; exact Or.inl (by rw [q]; rfl); exact Or.inr (by rw [q]; rfl))
            rw [if_neg hop] at hr
            refine hv_vret dX4_parseSum_76 rfl ?_
            rw [← hr]; exact ⟨rfl, rfl, rfl, hσ, hk, hp2, hp3, hp4⟩
          · have hop : kd f n a = 29 ∨ kd f n a = 30 := by
              rcases of_decide_eq_true (bI_1 c_29) with q | q
              · exact Or.inl ((nI_eq (b := 29) (by omega) (by decide)).mp q)
              · exact Or.inr ((nI_eq (b := 30) (by omega) (by decide)).mp q)
            rw [if_pos hop] at hr
            refine hv_aload_n dX4_parseSum_32 rfl ?_
            refine hv_geti dX4_parseSum_33 fl_X4_29 (by first | rfl | assumption) rfl ?_
            refine hv_bipush (v := 29) dX4_parseSum_36 (by decide) ?_
            rw [h3]
            refine hv_icmp_ne (tgt := 45) dX4_parseSum_38 (by decide) (fun c_38 => ?_) (fun c_38 => ?_)
            · rw [if_neg (fun q => c_38 (by rw [q]; rfl))] at ho
              refine hv_iconst (v := 3) dX4_parseSum_45 (by decide) ?_
              refine hv_str (congrArg (fun z => [Value.int z]) ho) ?_
              refine hv_istore_n dX4_parseSum_46 rfl rfl ?_
              exact go none (Or.inl rfl) hop hr
            · rw [if_pos ((nI_eq (b := 29) (by omega) (by decide)).mp c_38)] at ho
              refine hv_iconst (v := 2) dX4_parseSum_41 (by decide) ?_
              refine hv_goto (tgt := 46) dX4_parseSum_42 (by decide) ?_
              refine hv_str (congrArg (fun z => [Value.int z]) ho) ?_
              refine hv_istore_n dX4_parseSum_46 rfl rfl ?_
              exact go none (Or.inl rfl) hop hr
  refine hv_aload_n dX4_parseSum_0 rfl ?_
  refine hv_iload_n dX4_parseSum_1 rfl ?_
  refine hv_cv1 (call ht hs hz) dX4_parseSum_2 ml_X4_87 mk_X4_parseProduct (by first | rfl | assumption) rfl rfl rfl rfl rfl ?_
  rintro _ _ σ1 _ ⟨rfl, rfl, rfl, q1, q2, q3⟩
  refine hv_iconst (v := 0) dX4_parseSum_5 (by decide) ?_
  refine hv_istore_n dX4_parseSum_6 rfl rfl ?_
  exact loop 401 0 (bd s (fun a _ => U a)) _ σ1 none (by omega) (Or.inl rfl) q1 q2 q3 (by rw [bd_assoc])
set_option maxRecDepth 100000 in
theorem c_parseUnit_4 {f : hF} {n sz : Nat} {s : hPR Unit} (ht : tokC f n σ) (hs : pSt f n s σ) (hz : szOk sz s σ) : hCal G (m_parseUnit_4 (hQp xEx none (rr 38 51 (some 58) y) σ τ (fun σ' => k7 σ σ' ∧ pEx f n sz (bd s (fun a _ => uX (kd f n) (vl f n) 2 a)) σ σ'))) [.ref (hgA G 7), .int (nI 4)] shp (rr 38 51 (some 58) y) σ τ := by
  refine hv_enter pn_X4 rfl ?_
  obtain ⟨z1, z2, z3⟩ := hz
  rcases s with ⟨z, t⟩ | ⟨a, u⟩
  · have h1 := hs.1
    have hne : ¬ σ 7 7 = 0 := by rw [h1]; exact nI_ne0 (by have := hs.2.1; omega) (by have := hs.2.1; omega)
    refine hv_aload_n dX4_parseUnit_0 rfl ?_
    refine hv_geti dX4_parseUnit_1 fl_X4_41 (by first | rfl | assumption) rfl ?_
    refine hv_if_eq (tgt := 8) dX4_parseUnit_4 (by decide) (fun c_4 => absurd c_4 (hne)) (fun c_4 => ?_)
    refine hv_vret dX4_parseUnit_7 rfl ?_
    exact ⟨rfl, rfl, rfl, fun _ _ => rfl, k7_rf, hs, fun _ _ => rfl, sz, z2, z1⟩
  · have hsz := z3 a u rfl
    have h1 := hs.1
    have h2 := hs.2.1
    have h3 := hs.2.2.1
    have h4 := hs.2.2.2
    have ha := h4.1
    have hkl := kd_le f n a
    have hu := uX_s (kd f n) (vl f n) 1 a
    rw [show bd (Sum.inr (a, u) : hPR Unit) (fun a _ => uX (kd f n) (vl f n) 2 a) = _ from hu]
    have leaf : ∀ (k o : Int32) (σ1 : hS), (∀ k, k ∉ [58, 59, 60] → σ1 k = σ k) → pPut sz k o σ σ1 → tokC f n σ1 ∧ pSt f n (.inr (a, u)) σ1 ∧ ∀ σ2 : hS, (∀ k, k ∉ [7] → σ2 k = σ1 k) → k7 σ1 σ2 → pSt f n (bd (Sum.inr (a, u) : hPR Unit) (fun a _ => pass a)) σ2 → (∀ c, c ∉ xEx → σ2 c = σ c) ∧ k7 σ σ2 ∧ pEx f n sz (bd (pass a) (fun a _ => .inr (a, [(k, o)]))) σ σ2 := by
      intro k o σ1 q1 q2
      refine ⟨tokC_of ht q1 rfl, pSt_of hs (q1 7 (by decide)), fun σ2 r1 r2 r3 => ⟨off_tr q1 r1 (by decide) (by decide), k7_tr (fun j _ _ _ => by rw [q1 7 (by decide)]) r2, ?_⟩⟩
      have r4 : pSt f n (pass a) σ2 := r3
      unfold pass at r4 ⊢
      by_cases c : a < 400
      · rw [if_pos c] at r4 ⊢
        exact ⟨r4, pLw_of (pLw_p1 (by omega) q2) (r1 58 (by decide)) (r1 59 (by decide)) (r1 60 (by decide)), by simp; omega⟩
      · rw [if_neg c] at r4 ⊢
        exact ⟨r4, pLg_of (pLg_p z1 z2 q2) (r1 58 (by decide))⟩
    have flt : ∀ v : Nat, (v = 1 ∨ v = 2) → pEx f n sz (.inl (v, a)) σ (va_up σ 7 (upd (σ 7) 7 (nI v))) := by
      intro v hv
      exact ⟨⟨by rw [hup_eq, pk_us], hv, by rw [hup_eq, pk_un (by decide)]; exact h2, h4⟩, fun j hj => by rw [hva_ne (by decide)], sz, z2, by rw [hva_ne (by decide)]; exact z1⟩
    refine hv_aload_n dX4_parseUnit_0 rfl ?_
    refine hv_geti dX4_parseUnit_1 fl_X4_41 (by first | rfl | assumption) rfl ?_
    refine hv_if_eq (tgt := 8) dX4_parseUnit_4 (by decide) (fun c_4 => ?_) (fun c_4 => absurd (h1) c_4)
    refine hv_aload_n dX4_parseUnit_8 rfl ?_
    refine hv_geti dX4_parseUnit_9 fl_X4_29 (by first | rfl | assumption) rfl ?_
    refine hv_bipush (v := 24) dX4_parseUnit_12 (by decide) ?_
    rw [h3]
    refine hv_icmp_ne (tgt := 48) dX4_parseUnit_14 (by decide) (fun c_14 => ?_) (fun c_14 => ?_)
    · have hk : ¬ kd f n a = 24 := fun q => c_14 (by rw [q]; rfl)
      rw [if_neg hk]
      refine hv_aload_n dX4_parseUnit_48 rfl ?_
      refine hv_geti dX4_parseUnit_49 fl_X4_29 (by first | rfl | assumption) rfl ?_
      refine hv_bipush (v := 14) dX4_parseUnit_52 (by decide) ?_
      rw [h3]
      refine hv_icmp_lt (tgt := 93) dX4_parseUnit_54 (by decide) (fun c_54 => ?_) (fun c_54 => ?_)
      · have hv : ¬ (14 ≤ kd f n a ∧ kd f n a ≤ 22) := fun q => by have := (nI_ltI (b := 14) (by omega) (by decide)).mp c_54; omega
        rw [if_neg hv]
        refine hv_aload_n dX4_parseUnit_93 rfl ?_
        refine hv_geti dX4_parseUnit_94 fl_X4_29 (by first | rfl | assumption) rfl ?_
        refine hv_bipush (v := 34) dX4_parseUnit_97 (by decide) ?_
        rw [h3]
        refine hv_icmp_eq (tgt := 110) dX4_parseUnit_99 (by decide) (fun c_99 => ?_) (fun c_99 => ?_)
        · have ho : kd f n a = 34 := (nI_eq (b := 34) (by omega) (by decide)).mp c_99
          rw [if_pos ho]
          refine hv_iload_n dX4_parseUnit_110 rfl ?_
          refine hv_bipush (v := 6) dX4_parseUnit_111 (by decide) ?_
          refine hv_icmp_lt (tgt := 124) dX4_parseUnit_113 (by decide) (fun c_113 => ?_) (fun c_113 => absurd ((by decide)) c_113)
          refine hv_aload_n dX4_parseUnit_124 rfl ?_
          refine hv_aload_n dX4_parseUnit_125 rfl ?_
          refine hv_geti dX4_parseUnit_126 fl_X4_29 (by first | rfl | assumption) rfl ?_
          refine hv_cv1 (c_pass ht hs (fun b w q => by cases q; rw [ho]; decide)) dX4_parseUnit_129 ml_X4_63 mk_X4_take (by first | rfl | assumption) rfl rfl rfl rfl rfl ?_
          rintro _ _ σ2 _ ⟨rfl, rfl, rfl, r1, r2, r3⟩
          have r4 : pSt f n (pass a) σ2 := r3
          have hz2 : szOk sz (pass a) σ2 := ⟨by rw [r1 58 (by decide)]; exact z1, z2, fun b w q => by have := pass_r q; omega⟩
          refine hv_aload_n dX4_parseUnit_132 rfl ?_
          refine hv_iload_n dX4_parseUnit_133 rfl ?_
          refine hv_iconst (v := 1) dX4_parseUnit_134 (by decide) ?_
          refine hv_iadd dX4_parseUnit_135 ?_
          refine hv_cv1 (c_parseSum_5 (tokC_of ht r1 rfl) r4 hz2) dX4_parseUnit_136 ml_X4_77 mk_X4_parseSum (by first | rfl | assumption) rfl rfl rfl rfl rfl ?_
          rintro _ _ σ3 _ ⟨rfl, rfl, rfl, t1, t2, t3, t9⟩
          obtain ⟨r5, hr5⟩ : ∃ r5, bd (pass a) (fun a _ => sumX (kd f n) (uX (kd f n) (vl f n) 1) a) = r5 := ⟨_, rfl⟩
          rw [hr5] at t3 t9
          rw [← bd_assoc, hr5]
          have t4 : tokC f n σ3 := tokC_of (tokC_of ht r1 rfl) t1 rfl
          refine hv_aload_n dX4_parseUnit_139 rfl ?_
          refine hv_bipush (v := 35) dX4_parseUnit_140 (by decide) ?_
          refine hv_cv1 (c_take (k := 35) t4 t3 (by decide) (by decide)) dX4_parseUnit_142 ml_X4_63 mk_X4_take (by first | rfl | assumption) rfl rfl rfl rfl rfl ?_
          rintro _ _ σ4 _ ⟨rfl, rfl, rfl, w1, w2, w3⟩
          refine hv_vret dX4_parseUnit_145 rfl ?_
          first
            | exact ⟨rfl, rfl, rfl, m1, m2, m3⟩
            | exact ⟨rfl, rfl, rfl, off_up (fun _ _ => rfl) (by decide), fun j j1 j2 j3 => by rw [hup_eq, pk_un j3], flt 1 (Or.inl rfl)⟩
            | (refine ⟨rfl, rfl, rfl, off_tr (off_tr r1 t1 (Z := xEx) (by decide) (by decide)) w1 (by decide) (by decide), k7_tr (k7_tr r2 t2) w2, ?_⟩
               have e2 : ∀ j, j ≠ 5 → σ2 58 j = σ 58 j := fun j _ => by rw [r1 58 (by decide)]
               rcases r5 with e | ⟨a', c'⟩
               · exact ⟨w3, pLg_of (pLg_tr e2 t9) (w1 58 (by decide))⟩
               · obtain ⟨u1, u2⟩ := t9
                 have hw : pSt f n (tk (kd f n) 35 a') σ4 := w3
                 have hlw : pLw sz c' σ σ4 := pLw_of (pLw_tr (c := []) (pLw_0 z1 (r1 58 (by decide)) (r1 59 (by decide)) (r1 60 (by decide))) u1) (w1 58 (by decide)) (w1 59 (by decide)) (w1 60 (by decide))
                 show pEx f n sz (bd (tk (kd f n) 35 a') (fun a'' _ => .inr (a'', c'))) σ σ4
                 have ha' : a' ≤ 400 := t3.2.2.2.1
                 rcases hr6 : tk (kd f n) 35 a' with e | ⟨a'', u'⟩
                 · rw [hr6] at hw
                   exact ⟨hw, pLw_lg hlw (by omega)⟩
                 · rw [hr6] at hw
                   have ha2 := (tk_r hr6).2.2
                   exact ⟨by cases u'; exact hw, hlw, by omega⟩)
        · have ho : ¬ kd f n a = 34 := fun q => c_99 (by rw [q]; rfl)
          rw [if_neg ho]
          refine hv_aload_n dX4_parseUnit_102 rfl ?_
          refine hv_iconst (v := 1) dX4_parseUnit_103 (by decide) ?_
          refine hv_cv1 (c_pfail) dX4_parseUnit_104 ml_X4_60 mk_X4_fail (by first | rfl | assumption) rfl rfl rfl rfl rfl ?_
          rintro _ _ _ _ ⟨rfl, rfl, rfl, rfl⟩
          rw [if_pos h1]
          refine hv_goto (tgt := 145) dX4_parseUnit_107 (by decide) ?_
          refine hv_vret dX4_parseUnit_145 rfl ?_
          first
            | exact ⟨rfl, rfl, rfl, m1, m2, m3⟩
            | exact ⟨rfl, rfl, rfl, off_up (fun _ _ => rfl) (by decide), fun j j1 j2 j3 => by rw [hup_eq, pk_un j3], flt 1 (Or.inl rfl)⟩
            | (refine ⟨rfl, rfl, rfl, off_tr (off_tr r1 t1 (Z := xEx) (by decide) (by decide)) w1 (by decide) (by decide), k7_tr (k7_tr r2 t2) w2, ?_⟩
               have e2 : ∀ j, j ≠ 5 → σ2 58 j = σ 58 j := fun j _ => by rw [r1 58 (by decide)]
               rcases r5 with e | ⟨a', c'⟩
               · exact ⟨w3, pLg_of (pLg_tr e2 t9) (w1 58 (by decide))⟩
               · obtain ⟨u1, u2⟩ := t9
                 have hw : pSt f n (tk (kd f n) 35 a') σ4 := w3
                 have hlw : pLw sz c' σ σ4 := pLw_of (pLw_tr (c := []) (pLw_0 z1 (r1 58 (by decide)) (r1 59 (by decide)) (r1 60 (by decide))) u1) (w1 58 (by decide)) (w1 59 (by decide)) (w1 60 (by decide))
                 show pEx f n sz (bd (tk (kd f n) 35 a') (fun a'' _ => .inr (a'', c'))) σ σ4
                 have ha' : a' ≤ 400 := t3.2.2.2.1
                 rcases hr6 : tk (kd f n) 35 a' with e | ⟨a'', u'⟩
                 · rw [hr6] at hw
                   exact ⟨hw, pLw_lg hlw (by omega)⟩
                 · rw [hr6] at hw
                   have ha2 := (tk_r hr6).2.2
                   exact ⟨by cases u'; exact hw, hlw, by omega⟩)
      · refine hv_aload_n dX4_parseUnit_57 rfl ?_
        refine hv_geti dX4_parseUnit_58 fl_X4_29 (by first | rfl | assumption) rfl ?_
        refine hv_bipush (v := 22) dX4_parseUnit_61 (by decide) ?_
        rw [h3]
        refine hv_icmp_gt (tgt := 93) dX4_parseUnit_63 (by decide) (fun c_63 => ?_) (fun c_63 => ?_)
        · have hv : ¬ (14 ≤ kd f n a ∧ kd f n a ≤ 22) := fun q => by have := (nI_ltI (a := 22) (by decide) (by omega)).mp c_63; omega
          rw [if_neg hv]
          refine hv_aload_n dX4_parseUnit_93 rfl ?_
          refine hv_geti dX4_parseUnit_94 fl_X4_29 (by first | rfl | assumption) rfl ?_
          refine hv_bipush (v := 34) dX4_parseUnit_97 (by decide) ?_
          rw [h3]
          refine hv_icmp_eq (tgt := 110) dX4_parseUnit_99 (by decide) (fun c_99 => ?_) (fun c_99 => ?_)
          · have ho : kd f n a = 34 := (nI_eq (b := 34) (by omega) (by decide)).mp c_99
            rw [if_pos ho]
            refine hv_iload_n dX4_parseUnit_110 rfl ?_
            refine hv_bipush (v := 6) dX4_parseUnit_111 (by decide) ?_
            refine hv_icmp_lt (tgt := 124) dX4_parseUnit_113 (by decide) (fun c_113 => ?_) (fun c_113 => absurd ((by decide)) c_113)
            refine hv_aload_n dX4_parseUnit_124 rfl ?_
            refine hv_aload_n dX4_parseUnit_125 rfl ?_
            refine hv_geti dX4_parseUnit_126 fl_X4_29 (by first | rfl | assumption) rfl ?_
            refine hv_cv1 (c_pass ht hs (fun b w q => by cases q; rw [ho]; decide)) dX4_parseUnit_129 ml_X4_63 mk_X4_take (by first | rfl | assumption) rfl rfl rfl rfl rfl ?_
            rintro _ _ σ2 _ ⟨rfl, rfl, rfl, r1, r2, r3⟩
            have r4 : pSt f n (pass a) σ2 := r3
            have hz2 : szOk sz (pass a) σ2 := ⟨by rw [r1 58 (by decide)]; exact z1, z2, fun b w q => by have := pass_r q; omega⟩
            refine hv_aload_n dX4_parseUnit_132 rfl ?_
            refine hv_iload_n dX4_parseUnit_133 rfl ?_
            refine hv_iconst (v := 1) dX4_parseUnit_134 (by decide) ?_
            refine hv_iadd dX4_parseUnit_135 ?_
            refine hv_cv1 (c_parseSum_5 (tokC_of ht r1 rfl) r4 hz2) dX4_parseUnit_136 ml_X4_77 mk_X4_parseSum (by first | rfl | assumption) rfl rfl rfl rfl rfl ?_
            rintro _ _ σ3 _ ⟨rfl, rfl, rfl, t1, t2, t3, t9⟩
            obtain ⟨r5, hr5⟩ : ∃ r5, bd (pass a) (fun a _ => sumX (kd f n) (uX (kd f n) (vl f n) 1) a) = r5 := ⟨_, rfl⟩
            rw [hr5] at t3 t9
            rw [← bd_assoc, hr5]
            have t4 : tokC f n σ3 := tokC_of (tokC_of ht r1 rfl) t1 rfl
            refine hv_aload_n dX4_parseUnit_139 rfl ?_
            refine hv_bipush (v := 35) dX4_parseUnit_140 (by decide) ?_
            refine hv_cv1 (c_take (k := 35) t4 t3 (by decide) (by decide)) dX4_parseUnit_142 ml_X4_63 mk_X4_take (by first | rfl | assumption) rfl rfl rfl rfl rfl ?_
            rintro _ _ σ4 _ ⟨rfl, rfl, rfl, w1, w2, w3⟩
            refine hv_vret dX4_parseUnit_145 rfl ?_
            first
              | exact ⟨rfl, rfl, rfl, m1, m2, m3⟩
              | exact ⟨rfl, rfl, rfl, off_up (fun _ _ => rfl) (by decide), fun j j1 j2 j3 => by rw [hup_eq, pk_un j3], flt 1 (Or.inl rfl)⟩
              | (refine ⟨rfl, rfl, rfl, off_tr (off_tr r1 t1 (Z := xEx) (by decide) (by decide)) w1 (by decide) (by decide), k7_tr (k7_tr r2 t2) w2, ?_⟩
                 have e2 : ∀ j, j ≠ 5 → σ2 58 j = σ 58 j := fun j _ => by rw [r1 58 (by decide)]
                 rcases r5 with e | ⟨a', c'⟩
                 · exact ⟨w3, pLg_of (pLg_tr e2 t9) (w1 58 (by decide))⟩
                 · obtain ⟨u1, u2⟩ := t9
                   have hw : pSt f n (tk (kd f n) 35 a') σ4 := w3
                   have hlw : pLw sz c' σ σ4 := pLw_of (pLw_tr (c := []) (pLw_0 z1 (r1 58 (by decide)) (r1 59 (by decide)) (r1 60 (by decide))) u1) (w1 58 (by decide)) (w1 59 (by decide)) (w1 60 (by decide))
                   show pEx f n sz (bd (tk (kd f n) 35 a') (fun a'' _ => .inr (a'', c'))) σ σ4
                   have ha' : a' ≤ 400 := t3.2.2.2.1
                   rcases hr6 : tk (kd f n) 35 a' with e | ⟨a'', u'⟩
                   · rw [hr6] at hw
                     exact ⟨hw, pLw_lg hlw (by omega)⟩
                   · rw [hr6] at hw
                     have ha2 := (tk_r hr6).2.2
                     exact ⟨by cases u'; exact hw, hlw, by omega⟩)
          · have ho : ¬ kd f n a = 34 := fun q => c_99 (by rw [q]; rfl)
            rw [if_neg ho]
            refine hv_aload_n dX4_parseUnit_102 rfl ?_
            refine hv_iconst (v := 1) dX4_parseUnit_103 (by decide) ?_
            refine hv_cv1 (c_pfail) dX4_parseUnit_104 ml_X4_60 mk_X4_fail (by first | rfl | assumption) rfl rfl rfl rfl rfl ?_
            rintro _ _ _ _ ⟨rfl, rfl, rfl, rfl⟩
            rw [if_pos h1]
            refine hv_goto (tgt := 145) dX4_parseUnit_107 (by decide) ?_
            refine hv_vret dX4_parseUnit_145 rfl ?_
            first
              | exact ⟨rfl, rfl, rfl, m1, m2, m3⟩
              | exact ⟨rfl, rfl, rfl, off_up (fun _ _ => rfl) (by decide), fun j j1 j2 j3 => by rw [hup_eq, pk_un j3], flt 1 (Or.inl rfl)⟩
              | (refine ⟨rfl, rfl, rfl, off_tr (off_tr r1 t1 (Z := xEx) (by decide) (by decide)) w1 (by decide) (by decide), k7_tr (k7_tr r2 t2) w2, ?_⟩
                 have e2 : ∀ j, j ≠ 5 → σ2 58 j = σ 58 j := fun j _ => by rw [r1 58 (by decide)]
                 rcases r5 with e | ⟨a', c'⟩
                 · exact ⟨w3, pLg_of (pLg_tr e2 t9) (w1 58 (by decide))⟩
                 · obtain ⟨u1, u2⟩ := t9
                   have hw : pSt f n (tk (kd f n) 35 a') σ4 := w3
                   have hlw : pLw sz c' σ σ4 := pLw_of (pLw_tr (c := []) (pLw_0 z1 (r1 58 (by decide)) (r1 59 (by decide)) (r1 60 (by decide))) u1) (w1 58 (by decide)) (w1 59 (by decide)) (w1 60 (by decide))
                   show pEx f n sz (bd (tk (kd f n) 35 a') (fun a'' _ => .inr (a'', c'))) σ σ4
                   have ha' : a' ≤ 400 := t3.2.2.2.1
                   rcases hr6 : tk (kd f n) 35 a' with e | ⟨a'', u'⟩
                   · rw [hr6] at hw
                     exact ⟨hw, pLw_lg hlw (by omega)⟩
                   · rw [hr6] at hw
                     have ha2 := (tk_r hr6).2.2
                     exact ⟨by cases u'; exact hw, hlw, by omega⟩)
        · have hv : 14 ≤ kd f n a ∧ kd f n a ≤ 22 := ⟨(nI_leI (a := 14) (by decide) (by omega)).mp (Int32.not_lt.mp c_54), (nI_leI (b := 22) (by omega) (by decide)).mp (Int32.not_lt.mp c_63)⟩
          rw [if_pos hv]
          refine hv_aload_n dX4_parseUnit_66 rfl ?_
          refine hv_getr dX4_parseUnit_67 fl_X4_15 (by first | rfl | assumption) rfl (by first | rfl | assumption) ?_
          refine hv_iconst (v := 1) dX4_parseUnit_70 (by decide) ?_
          refine hv_aload_n dX4_parseUnit_71 rfl ?_
          refine hv_geti dX4_parseUnit_72 fl_X4_29 (by first | rfl | assumption) rfl ?_
          refine hv_bipush (v := 14) dX4_parseUnit_75 (by decide) ?_
          rw [h3]
          refine hv_isub dX4_parseUnit_77 ?_
          rw [show nI (kd f n a) - 14 = nI (kd f n a - 14) from pk_sub (b := 14) hv.1]
          refine hv_cv2 (c_lput z1 z2) dX4_parseUnit_78 ml_X4_80 mk_X1_put (by first | rfl | assumption) rfl rfl rfl rfl rfl ?_
          rintro _ _ σ1 _ ⟨rfl, rfl, rfl, q1, q2⟩
          obtain ⟨l1, l2, l3⟩ := leaf _ _ σ1 q1 q2
          refine hv_pop dX4_parseUnit_81 rfl ?_
          refine hv_aload_n dX4_parseUnit_82 rfl ?_
          refine hv_aload_n dX4_parseUnit_83 rfl ?_
          refine hv_geti dX4_parseUnit_84 fl_X4_29 (by first | rfl | assumption) rfl ?_
          refine hv_cv1 (c_pass l1 l2 (fun b w q => by cases q; omega)) dX4_parseUnit_87 ml_X4_63 mk_X4_take (by first | rfl | assumption) rfl rfl rfl rfl rfl ?_
          rintro _ _ σ2 _ ⟨rfl, rfl, rfl, r1, r2, r3⟩
          obtain ⟨m1, m2, m3⟩ := l3 σ2 r1 r2 r3
          refine hv_goto (tgt := 145) dX4_parseUnit_90 (by decide) ?_
          refine hv_vret dX4_parseUnit_145 rfl ?_
          first
            | exact ⟨rfl, rfl, rfl, m1, m2, m3⟩
            | exact ⟨rfl, rfl, rfl, off_up (fun _ _ => rfl) (by decide), fun j j1 j2 j3 => by rw [hup_eq, pk_un j3], flt 1 (Or.inl rfl)⟩
            | (refine ⟨rfl, rfl, rfl, off_tr (off_tr r1 t1 (Z := xEx) (by decide) (by decide)) w1 (by decide) (by decide), k7_tr (k7_tr r2 t2) w2, ?_⟩
               have e2 : ∀ j, j ≠ 5 → σ2 58 j = σ 58 j := fun j _ => by rw [r1 58 (by decide)]
               rcases r5 with e | ⟨a', c'⟩
               · exact ⟨w3, pLg_of (pLg_tr e2 t9) (w1 58 (by decide))⟩
               · obtain ⟨u1, u2⟩ := t9
                 have hw : pSt f n (tk (kd f n) 35 a') σ4 := w3
                 have hlw : pLw sz c' σ σ4 := pLw_of (pLw_tr (c := []) (pLw_0 z1 (r1 58 (by decide)) (r1 59 (by decide)) (r1 60 (by decide))) u1) (w1 58 (by decide)) (w1 59 (by decide)) (w1 60 (by decide))
                 show pEx f n sz (bd (tk (kd f n) 35 a') (fun a'' _ => .inr (a'', c'))) σ σ4
                 have ha' : a' ≤ 400 := t3.2.2.2.1
                 rcases hr6 : tk (kd f n) 35 a' with e | ⟨a'', u'⟩
                 · rw [hr6] at hw
                   exact ⟨hw, pLw_lg hlw (by omega)⟩
                 · rw [hr6] at hw
                   have ha2 := (tk_r hr6).2.2
                   exact ⟨by cases u'; exact hw, hlw, by omega⟩)
    · have hk : kd f n a = 24 := (nI_eq (b := 24) (by omega) (by decide)).mp c_14
      rw [if_pos hk]
      refine hv_aload_n dX4_parseUnit_17 rfl ?_
      refine hv_getr dX4_parseUnit_18 fl_X4_15 (by first | rfl | assumption) rfl (by first | rfl | assumption) ?_
      refine hv_iconst (v := 0) dX4_parseUnit_21 (by decide) ?_
      refine hv_aload_n dX4_parseUnit_22 rfl ?_
      refine hv_getr dX4_parseUnit_23 fl_X4_9 (by first | rfl | assumption) rfl (by first | rfl | assumption) ?_
      refine hv_aload_n dX4_parseUnit_26 rfl ?_
      refine hv_geti dX4_parseUnit_27 fl_X4_19 (by first | rfl | assumption) rfl ?_
      rw [h2]
      refine hv_cv1 (c_tvalue ht h4) dX4_parseUnit_30 ml_X4_97 mk_X9_value (by first | rfl | assumption) rfl rfl rfl rfl rfl ?_
      rintro _ _ _ _ ⟨rfl, rfl, rfl, rfl⟩
      refine hv_cv2 (c_lput z1 z2) dX4_parseUnit_33 ml_X4_80 mk_X1_put (by first | rfl | assumption) rfl rfl rfl rfl rfl ?_
      rintro _ _ σ1 _ ⟨rfl, rfl, rfl, q1, q2⟩
      obtain ⟨l1, l2, l3⟩ := leaf _ _ σ1 q1 q2
      refine hv_pop dX4_parseUnit_36 rfl ?_
      refine hv_aload_n dX4_parseUnit_37 rfl ?_
      refine hv_aload_n dX4_parseUnit_38 rfl ?_
      refine hv_geti dX4_parseUnit_39 fl_X4_29 (by first | rfl | assumption) rfl ?_
      refine hv_cv1 (c_pass l1 l2 (fun b w q => by cases q; rw [hk]; decide)) dX4_parseUnit_42 ml_X4_63 mk_X4_take (by first | rfl | assumption) rfl rfl rfl rfl rfl ?_
      rintro _ _ σ2 _ ⟨rfl, rfl, rfl, r1, r2, r3⟩
      obtain ⟨m1, m2, m3⟩ := l3 σ2 r1 r2 r3
      refine hv_goto (tgt := 145) dX4_parseUnit_45 (by decide) ?_
      refine hv_vret dX4_parseUnit_145 rfl ?_
      first
        | exact ⟨rfl, rfl, rfl, m1, m2, m3⟩
        | exact ⟨rfl, rfl, rfl, off_up (fun _ _ => rfl) (by decide), fun j j1 j2 j3 => by rw [hup_eq, pk_un j3], flt 1 (Or.inl rfl)⟩
        | (refine ⟨rfl, rfl, rfl, off_tr (off_tr r1 t1 (Z := xEx) (by decide) (by decide)) w1 (by decide) (by decide), k7_tr (k7_tr r2 t2) w2, ?_⟩
           have e2 : ∀ j, j ≠ 5 → σ2 58 j = σ 58 j := fun j _ => by rw [r1 58 (by decide)]
           rcases r5 with e | ⟨a', c'⟩
           · exact ⟨w3, pLg_of (pLg_tr e2 t9) (w1 58 (by decide))⟩
           · obtain ⟨u1, u2⟩ := t9
             have hw : pSt f n (tk (kd f n) 35 a') σ4 := w3
             have hlw : pLw sz c' σ σ4 := pLw_of (pLw_tr (c := []) (pLw_0 z1 (r1 58 (by decide)) (r1 59 (by decide)) (r1 60 (by decide))) u1) (w1 58 (by decide)) (w1 59 (by decide)) (w1 60 (by decide))
             show pEx f n sz (bd (tk (kd f n) 35 a') (fun a'' _ => .inr (a'', c'))) σ σ4
             have ha' : a' ≤ 400 := t3.2.2.2.1
             rcases hr6 : tk (kd f n) 35 a' with e | ⟨a'', u'⟩
             · rw [hr6] at hw
               exact ⟨hw, pLw_lg hlw (by omega)⟩
             · rw [hr6] at hw
               have ha2 := (tk_r hr6).2.2
               exact ⟨by cases u'; exact hw, hlw, by omega⟩)
set_option maxRecDepth 100000 in
theorem c_parseProduct_4 {f : hF} {n sz : Nat} {s : hPR Unit} (ht : tokC f n σ) (hs : pSt f n s σ) (hz : szOk sz s σ) : hCal G (m_parseProduct_4 (hQp xEx none (rr 38 51 (some 58) y) σ τ (fun σ' => k7 σ σ' ∧ pEx f n sz (bd s (fun a _ => prodX (kd f n) (uX (kd f n) (vl f n) 2) a)) σ σ'))) [.ref (hgA G 7), .int (nI 4)] shp (rr 38 51 (some 58) y) σ τ := by
  refine hv_enter pn_X4 rfl ?_
  obtain ⟨U, hU⟩ : ∃ U : Nat → hPR hCd, uX (kd f n) (vl f n) 2 = U := ⟨_, rfl⟩
  have hUo : ∀ at', at' ≤ 400 → okG (kd f n) at' (fun a c => at' < a ∧ c.length ≤ a - at') (U at') := fun at' h => by
    rw [← hU]
    exact okG_mono _ (uX_ok (kd f n) (vl f n) 2 at' h) (fun a c _ _ q => ⟨q.1, q.2.2.1⟩)
  have call : ∀ {s2 : hPR Unit} {σ2 : hS} {sz2 : Nat}, tokC f n σ2 → pSt f n s2 σ2 → szOk sz2 s2 σ2 → hCal G (m_parseUnit_4 (hQp xEx none (rr 38 51 (some 58) y) σ2 τ (fun σ' => k7 σ2 σ' ∧ pEx f n sz2 (bd s2 (fun a _ => U a)) σ2 σ'))) [.ref (hgA G 7), .int (nI 4)] shp (rr 38 51 (some 58) y) σ2 τ := fun h1 h2 h3 => by
    rw [← hU]; exact c_parseUnit_4 h1 h2 h3
  rw [show (fun a (_ : Unit) => prodX (kd f n) (uX (kd f n) (vl f n) 2) a) = (fun a _ => bd (U a) (fun a c => prodL (kd f n) U 401 a c)) from by rw [← hU]; rfl]
  have loop : ∀ k i r res (σ1 : hS) (l3 : Option Value), i + k = 401 → (l3 = none ∨ ∃ z, l3 = some (.int z)) → (∀ c, c ∉ xEx → σ1 c = σ c) → k7 σ σ1 → pEx f n sz r σ σ1 → bd r (fun a c => prodL (kd f n) U k a c) = res → hV G (m_parseProduct_4 (hQp xEx none (rr 38 51 (some 58) y) σ τ (fun σ' => k7 σ σ' ∧ pEx f n sz res σ σ'))) 0 0 shp 7 [some (.ref (hgA G 7)), some (.int (nI 4)), some (.int (nI i)), l3] [] (rr 38 51 (some 58) y) σ1 τ := by
    intro k
    induction k with
    | zero =>
      intro i r res σ1 l3 hi hl3 hσ hk hp hr
      obtain rfl : i = 401 := by omega
      have hrr : r = res := by rw [← hr]; rcases r with e | ⟨a, c⟩ <;> rfl
      refine hv_iload_n dX4_parseProduct_7 rfl ?_
      refine hv_sipush (v := 400) dX4_parseProduct_8 (by decide) ?_
      refine hv_icmp_gt (tgt := 76) dX4_parseProduct_11 (by decide) (fun c_11 => ?_) (fun c_11 => absurd ((by decide)) c_11)
      refine hv_vret dX4_parseProduct_76 rfl ?_
      rw [← hrr]; exact ⟨rfl, rfl, rfl, hσ, hk, hp⟩
    | succ k ih =>
      intro i r res σ1 l3 hi hl3 hσ hk hp hr
      rcases r with ⟨z, t⟩ | ⟨a, c⟩
      · have hp2 := hp.1
        have h1 := hp2.1
        have hne : ¬ σ1 7 7 = 0 := by rw [h1]; exact nI_ne0 (by have := hp2.2.1; omega) (by have := hp2.2.1; omega)
        refine hv_iload_n dX4_parseProduct_7 rfl ?_
        refine hv_sipush (v := 400) dX4_parseProduct_8 (by decide) ?_
        refine hv_icmp_gt (tgt := 76) dX4_parseProduct_11 (by decide) (fun c_11 => absurd c_11 ((nI_nlt (a := 400) (by omega) (by decide)))) (fun c_11 => ?_)
        refine hv_aload_n dX4_parseProduct_14 rfl ?_
        refine hv_geti dX4_parseProduct_15 fl_X4_41 (by first | rfl | assumption) rfl ?_
        refine hv_if_ne (tgt := 76) dX4_parseProduct_18 (by decide) (fun c_18 => ?_) (fun c_18 => absurd c_18 (hne))
        refine hv_vret dX4_parseProduct_76 rfl ?_
        rw [← hr]; exact ⟨rfl, rfl, rfl, hσ, hk, hp⟩
      · obtain ⟨hp2, hp3, hp4⟩ := hp
        have h1 := hp2.1
        have h3 := hp2.2.2.1
        have ha4 := hp2.2.2.2.1
        have hkl := kd_le f n a
        have tk1 : tokC f n σ1 := tokC_of ht hσ rfl
        rw [show bd (Sum.inr (a, c) : hPR hCd) (fun a c => prodL (kd f n) U (k + 1) a c) = _ from prodL_s (kd f n) U k a c] at hr
        obtain ⟨o, ho⟩ : ∃ o : Int32, (if kd f n a = 31 then 4 else 5 : Int32) = o := ⟨_, rfl⟩
        rw [ho] at hr
        have go : ∀ (l3 : Option Value), (l3 = none ∨ ∃ z, l3 = some (.int z)) → (kd f n a = 31 ∨ kd f n a = 32) → bd (pass a) (fun a1 _ => bd (U a1) (fun a' c' => prodL (kd f n) U k a' (c ++ c' ++ [(o, 0)]))) = res → hV G (m_parseProduct_4 (hQp xEx none (rr 38 51 (some 58) y) σ τ (fun σ' => k7 σ σ' ∧ pEx f n sz res σ σ'))) 0 0 shp 47 [some (.ref (hgA G 7)), some (.int (nI 4)), some (.int (nI i)), some (.int o)] [] (rr 38 51 (some 58) y) σ1 τ := by
          intro l3 hl3 hop hr
          refine hv_aload_n dX4_parseProduct_47 rfl ?_
          refine hv_aload_n dX4_parseProduct_48 rfl ?_
          refine hv_geti dX4_parseProduct_49 fl_X4_29 (by first | rfl | assumption) rfl ?_
          refine hv_cv1 (c_pass tk1 hp2 (fun b w q => by cases q; omega)) dX4_parseProduct_52 ml_X4_63 mk_X4_take (by first | rfl | assumption) rfl rfl rfl rfl rfl ?_
          rintro _ _ σ2 _ ⟨rfl, rfl, rfl, r1, r2, r3⟩
          have r4 : pSt f n (pass a) σ2 := r3
          have hlw2 : pLw sz c σ σ2 := pLw_of hp3 (r1 58 (by decide)) (r1 59 (by decide)) (r1 60 (by decide))
          have hz2 : szOk (sz + c.length) (pass a) σ2 := ⟨hlw2.2.1, by omega, fun b w q => by have := pass_r q; omega⟩
          have tk2 : tokC f n σ2 := tokC_of tk1 r1 rfl
          refine hv_aload_n dX4_parseProduct_55 rfl ?_
          refine hv_iload_n dX4_parseProduct_56 rfl ?_
          refine hv_cv1 (call tk2 r4 hz2) dX4_parseProduct_57 ml_X4_94 mk_X4_parseUnit (by first | rfl | assumption) rfl rfl rfl rfl rfl ?_
          rintro _ _ σ3 _ ⟨rfl, rfl, rfl, t1, t2, t3, t9⟩
          have hso : okG (kd f n) a (fun a' c' => a + 1 < a' ∧ c'.length ≤ a' - (a + 1)) (bd (pass a) (fun a _ => U a)) := okG_bd _ (okG_pass _ ha4 (by omega)) (fun a1 _ _ a4 ea => by subst ea; exact hUo (a + 1) a4)
          rw [← bd_assoc] at hr
          obtain ⟨r5, hr5⟩ : ∃ r5, bd (pass a) (fun a _ => U a) = r5 := ⟨_, rfl⟩
          rw [hr5] at t3 t9 hso hr
          obtain ⟨z, hzz, hz4, hz6⟩ : ∃ z, σ3 58 5 = nI z ∧ z ≤ 410 ∧ ∀ a' c', r5 = .inr (a', c') → z = sz + c.length + c'.length ∧ z + 1 ≤ 10 + a' := by
            rcases r5 with e | ⟨a', c'⟩
            · obtain ⟨z, q1, q2⟩ := t9.2
              exact ⟨z, q2, q1, fun _ _ q => nomatch q⟩
            · have h9 := hso.2.2.2
              have h8 := hso.2.1
              exact ⟨sz + c.length + c'.length, t9.1.2.1, by omega, fun _ _ q => by cases q; exact ⟨rfl, by omega⟩⟩
          refine hv_aload_n dX4_parseProduct_60 rfl ?_
          refine hv_getr dX4_parseProduct_61 fl_X4_15 (by first | rfl | assumption) rfl (by first | rfl | assumption) ?_
          refine hv_iload_n dX4_parseProduct_64 rfl ?_
          refine hv_iconst (v := 0) dX4_parseProduct_65 (by decide) ?_
          refine hv_cv2 (c_lput hzz hz4) dX4_parseProduct_66 ml_X4_80 mk_X1_put (by first | rfl | assumption) rfl rfl rfl rfl rfl ?_
          rintro _ _ σ4 _ ⟨rfl, rfl, rfl, w1, w2⟩
          refine hv_pop dX4_parseProduct_69 rfl ?_
          refine hv_iinc dX4_parseProduct_70 rfl (nI_1 i) rfl rfl ?_
          refine hv_goto (tgt := 7) dX4_parseProduct_73 (by decide) ?_
          refine ih (i + 1) (bd r5 (fun a' c' => .inr (a', c ++ c' ++ [(o, 0)]))) res σ4 _ (by omega) (Or.inr ⟨_, rfl⟩) (off_tr (off_tr (off_tr hσ r1 (Z := xEx) (by decide) (by decide)) t1 (Z := xEx) (by decide) (by decide)) w1 (by decide) (by decide)) (k7_tr (k7_tr (k7_tr hk r2) t2) (fun j _ _ _ => by rw [w1 7 (by decide)])) ?_ (by rw [bd_assoc]; exact hr)
          rcases r5 with e | ⟨a', c'⟩
          · exact ⟨pSt_of t3 (w1 7 (by decide)), pLg_tr (fun j hj => (t9.1 j hj).trans (hlw2.1 j hj)) (pLg_p hzz hz4 w2)⟩
          · obtain ⟨e1, e2⟩ := hz6 a' c' rfl
            have h8 := hso.2.1
            subst e1
            exact ⟨pSt_of t3 (w1 7 (by decide)), pLw_tr (pLw_tr hlw2 t9.1) (by rw [List.length_append, ← Nat.add_assoc]; exact pLw_p1 (by omega) w2), by rw [List.length_append, List.length_append, List.length_singleton]; omega⟩
        rcases hl3 with rfl | ⟨z, rfl⟩
        · skip
          refine hv_iload_n dX4_parseProduct_7 rfl ?_
          refine hv_sipush (v := 400) dX4_parseProduct_8 (by decide) ?_
          refine hv_icmp_gt (tgt := 76) dX4_parseProduct_11 (by decide) (fun c_11 => absurd c_11 ((nI_nlt (a := 400) (by omega) (by decide)))) (fun c_11 => ?_)
          refine hv_aload_n dX4_parseProduct_14 rfl ?_
          refine hv_geti dX4_parseProduct_15 fl_X4_41 (by first | rfl | assumption) rfl ?_
          refine hv_if_ne (tgt := 76) dX4_parseProduct_18 (by decide) (fun c_18 => absurd (h1) c_18) (fun c_18 => ?_)
          refine hv_aload_n dX4_parseProduct_21 rfl ?_
          refine hv_bipush (v := 31) dX4_parseProduct_22 (by decide) ?_
          refine hv_bipush (v := 32) dX4_parseProduct_24 (by decide) ?_
          refine hv_cv2 (c_isOne) dX4_parseProduct_26 ml_X4_90 mk_X4_isOne (by first | rfl | assumption) rfl rfl rfl rfl rfl ?_
          rintro _ _ _ _ ⟨rfl, rfl, rfl, rfl⟩
          rw [h3]
          refine hv_if_eq (tgt := 76) dX4_parseProduct_29 (by decide) (fun c_29 => ?_) (fun c_29 => ?_)
          · have hop : ¬ (kd f n a = 31 ∨ kd f n a = 32) := fun q => of_decide_eq_false (bI_0 c_29) (by rcases q with q | q; exact Or.inl (by rw [q]; rfl); exact Or.inr (by rw [q]; rfl))
            rw [if_neg hop] at hr
            refine hv_vret dX4_parseProduct_76 rfl ?_
            rw [← hr]; exact ⟨rfl, rfl, rfl, hσ, hk, hp2, hp3, hp4⟩
          · have hop : kd f n a = 31 ∨ kd f n a = 32 := by
              rcases of_decide_eq_true (bI_1 c_29) with q | q
              · exact Or.inl ((nI_eq (b := 31) (by omega) (by decide)).mp q)
              · exact Or.inr ((nI_eq (b := 32) (by omega) (by decide)).mp q)
            rw [if_pos hop] at hr
            refine hv_aload_n dX4_parseProduct_32 rfl ?_
            refine hv_geti dX4_parseProduct_33 fl_X4_29 (by first | rfl | assumption) rfl ?_
            refine hv_bipush (v := 31) dX4_parseProduct_36 (by decide) ?_
            rw [h3]
            refine hv_icmp_ne (tgt := 45) dX4_parseProduct_38 (by decide) (fun c_38 => ?_) (fun c_38 => ?_)
            · rw [if_neg (fun q => c_38 (by rw [q]; rfl))] at ho
              refine hv_iconst (v := 5) dX4_parseProduct_45 (by decide) ?_
              refine hv_str (congrArg (fun z => [Value.int z]) ho) ?_
              refine hv_istore_n dX4_parseProduct_46 rfl rfl ?_
              exact go none (Or.inl rfl) hop hr
            · rw [if_pos ((nI_eq (b := 31) (by omega) (by decide)).mp c_38)] at ho
              refine hv_iconst (v := 4) dX4_parseProduct_41 (by decide) ?_
              refine hv_goto (tgt := 46) dX4_parseProduct_42 (by decide) ?_
              refine hv_str (congrArg (fun z => [Value.int z]) ho) ?_
              refine hv_istore_n dX4_parseProduct_46 rfl rfl ?_
              exact go none (Or.inl rfl) hop hr
        · skip
          refine hv_iload_n dX4_parseProduct_7 rfl ?_
          refine hv_sipush (v := 400) dX4_parseProduct_8 (by decide) ?_
          refine hv_icmp_gt (tgt := 76) dX4_parseProduct_11 (by decide) (fun c_11 => absurd c_11 ((nI_nlt (a := 400) (by omega) (by decide)))) (fun c_11 => ?_)
          refine hv_aload_n dX4_parseProduct_14 rfl ?_
          refine hv_geti dX4_parseProduct_15 fl_X4_41 (by first | rfl | assumption) rfl ?_
          refine hv_if_ne (tgt := 76) dX4_parseProduct_18 (by decide) (fun c_18 => absurd (h1) c_18) (fun c_18 => ?_)
          refine hv_aload_n dX4_parseProduct_21 rfl ?_
          refine hv_bipush (v := 31) dX4_parseProduct_22 (by decide) ?_
          refine hv_bipush (v := 32) dX4_parseProduct_24 (by decide) ?_
          refine hv_cv2 (c_isOne) dX4_parseProduct_26 ml_X4_90 mk_X4_isOne (by first | rfl | assumption) rfl rfl rfl rfl rfl ?_
          rintro _ _ _ _ ⟨rfl, rfl, rfl, rfl⟩
          rw [h3]
          refine hv_if_eq (tgt := 76) dX4_parseProduct_29 (by decide) (fun c_29 => ?_) (fun c_29 => ?_)
          · have hop : ¬ (kd f n a = 31 ∨ kd f n a = 32) := fun q => of_decide_eq_false (bI_0 c_29) (by rcases q with q | q; exact Or.inl (by rw [q]; rfl); exact Or.inr (by rw [q]; rfl))
            rw [if_neg hop] at hr
            refine hv_vret dX4_parseProduct_76 rfl ?_
            rw [← hr]; exact ⟨rfl, rfl, rfl, hσ, hk, hp2, hp3, hp4⟩
          · have hop : kd f n a = 31 ∨ kd f n a = 32 := by
              rcases of_decide_eq_true (bI_1 c_29) with q | q
              · exact Or.inl ((nI_eq (b := 31) (by omega) (by decide)).mp q)
              · exact Or.inr ((nI_eq (b := 32) (by omega) (by decide)).mp q)
            rw [if_pos hop] at hr
            refine hv_aload_n dX4_parseProduct_32 rfl ?_
            refine hv_geti dX4_parseProduct_33 fl_X4_29 (by first | rfl | assumption) rfl ?_
            refine hv_bipush (v := 31) dX4_parseProduct_36 (by decide) ?_
            rw [h3]
            refine hv_icmp_ne (tgt := 45) dX4_parseProduct_38 (by decide) (fun c_38 => ?_) (fun c_38 => ?_)
            · rw [if_neg (fun q => c_38 (by rw [q]; rfl))] at ho
              refine hv_iconst (v := 5) dX4_parseProduct_45 (by decide) ?_
              refine hv_str (congrArg (fun z => [Value.int z]) ho) ?_
              refine hv_istore_n dX4_parseProduct_46 rfl rfl ?_
              exact go none (Or.inl rfl) hop hr
            · rw [if_pos ((nI_eq (b := 31) (by omega) (by decide)).mp c_38)] at ho
              refine hv_iconst (v := 4) dX4_parseProduct_41 (by decide) ?_
              refine hv_goto (tgt := 46) dX4_parseProduct_42 (by decide) ?_
              refine hv_str (congrArg (fun z => [Value.int z]) ho) ?_
              refine hv_istore_n dX4_parseProduct_46 rfl rfl ?_
              exact go none (Or.inl rfl) hop hr
  refine hv_aload_n dX4_parseProduct_0 rfl ?_
  refine hv_iload_n dX4_parseProduct_1 rfl ?_
  refine hv_cv1 (call ht hs hz) dX4_parseProduct_2 ml_X4_94 mk_X4_parseUnit (by first | rfl | assumption) rfl rfl rfl rfl rfl ?_
  rintro _ _ σ1 _ ⟨rfl, rfl, rfl, q1, q2, q3⟩
  refine hv_iconst (v := 0) dX4_parseProduct_5 (by decide) ?_
  refine hv_istore_n dX4_parseProduct_6 rfl rfl ?_
  exact loop 401 0 (bd s (fun a _ => U a)) _ σ1 none (by omega) (Or.inl rfl) q1 q2 q3 (by rw [bd_assoc])
set_option maxRecDepth 100000 in
theorem c_parseSum_4 {f : hF} {n sz : Nat} {s : hPR Unit} (ht : tokC f n σ) (hs : pSt f n s σ) (hz : szOk sz s σ) : hCal G (m_parseSum_4 (hQp xEx none (rr 38 51 (some 58) y) σ τ (fun σ' => k7 σ σ' ∧ pEx f n sz (bd s (fun a _ => sumX (kd f n) (uX (kd f n) (vl f n) 2) a)) σ σ'))) [.ref (hgA G 7), .int (nI 4)] shp (rr 38 51 (some 58) y) σ τ := by
  refine hv_enter pn_X4 rfl ?_
  obtain ⟨U, hU⟩ : ∃ U : Nat → hPR hCd, prodX (kd f n) (uX (kd f n) (vl f n) 2) = U := ⟨_, rfl⟩
  have hUo : ∀ at', at' ≤ 400 → okG (kd f n) at' (fun a c => at' < a ∧ c.length ≤ a - at') (U at') := fun at' h => by
    rw [← hU]
    exact okG_mono _ (prodX_ok (kd f n) (uX_ok (kd f n) (vl f n) 2) at' h) (fun a c _ _ q => ⟨q.1.1, q.1.2.2.1⟩)
  have call : ∀ {s2 : hPR Unit} {σ2 : hS} {sz2 : Nat}, tokC f n σ2 → pSt f n s2 σ2 → szOk sz2 s2 σ2 → hCal G (m_parseProduct_4 (hQp xEx none (rr 38 51 (some 58) y) σ2 τ (fun σ' => k7 σ2 σ' ∧ pEx f n sz2 (bd s2 (fun a _ => U a)) σ2 σ'))) [.ref (hgA G 7), .int (nI 4)] shp (rr 38 51 (some 58) y) σ2 τ := fun h1 h2 h3 => by
    rw [← hU]; exact c_parseProduct_4 h1 h2 h3
  rw [show (fun a (_ : Unit) => sumX (kd f n) (uX (kd f n) (vl f n) 2) a) = (fun a _ => bd (U a) (fun a c => sumL (kd f n) U 401 a c)) from by rw [← hU]; rfl]
  have loop : ∀ k i r res (σ1 : hS) (l3 : Option Value), i + k = 401 → (l3 = none ∨ ∃ z, l3 = some (.int z)) → (∀ c, c ∉ xEx → σ1 c = σ c) → k7 σ σ1 → pEx f n sz r σ σ1 → bd r (fun a c => sumL (kd f n) U k a c) = res → hV G (m_parseSum_4 (hQp xEx none (rr 38 51 (some 58) y) σ τ (fun σ' => k7 σ σ' ∧ pEx f n sz res σ σ'))) 0 0 shp 7 [some (.ref (hgA G 7)), some (.int (nI 4)), some (.int (nI i)), l3] [] (rr 38 51 (some 58) y) σ1 τ := by
    intro k
    induction k with
    | zero =>
      intro i r res σ1 l3 hi hl3 hσ hk hp hr
      obtain rfl : i = 401 := by omega
      have hrr : r = res := by rw [← hr]; rcases r with e | ⟨a, c⟩ <;> rfl
      refine hv_iload_n dX4_parseSum_7 rfl ?_
      refine hv_sipush (v := 400) dX4_parseSum_8 (by decide) ?_
      refine hv_icmp_gt (tgt := 76) dX4_parseSum_11 (by decide) (fun c_11 => ?_) (fun c_11 => absurd ((by decide)) c_11)
      refine hv_vret dX4_parseSum_76 rfl ?_
      rw [← hrr]; exact ⟨rfl, rfl, rfl, hσ, hk, hp⟩
    | succ k ih =>
      intro i r res σ1 l3 hi hl3 hσ hk hp hr
      rcases r with ⟨z, t⟩ | ⟨a, c⟩
      · have hp2 := hp.1
        have h1 := hp2.1
        have hne : ¬ σ1 7 7 = 0 := by rw [h1]; exact nI_ne0 (by have := hp2.2.1; omega) (by have := hp2.2.1; omega)
        refine hv_iload_n dX4_parseSum_7 rfl ?_
        refine hv_sipush (v := 400) dX4_parseSum_8 (by decide) ?_
        refine hv_icmp_gt (tgt := 76) dX4_parseSum_11 (by decide) (fun c_11 => absurd c_11 ((nI_nlt (a := 400) (by omega) (by decide)))) (fun c_11 => ?_)
        refine hv_aload_n dX4_parseSum_14 rfl ?_
        refine hv_geti dX4_parseSum_15 fl_X4_41 (by first | rfl | assumption) rfl ?_
        refine hv_if_ne (tgt := 76) dX4_parseSum_18 (by decide) (fun c_18 => ?_) (fun c_18 => absurd c_18 (hne))
        refine hv_vret dX4_parseSum_76 rfl ?_
        rw [← hr]; exact ⟨rfl, rfl, rfl, hσ, hk, hp⟩
      · obtain ⟨hp2, hp3, hp4⟩ := hp
        have h1 := hp2.1
        have h3 := hp2.2.2.1
        have ha4 := hp2.2.2.2.1
        have hkl := kd_le f n a
        have tk1 : tokC f n σ1 := tokC_of ht hσ rfl
        rw [show bd (Sum.inr (a, c) : hPR hCd) (fun a c => sumL (kd f n) U (k + 1) a c) = _ from sumL_s (kd f n) U k a c] at hr
        obtain ⟨o, ho⟩ : ∃ o : Int32, (if kd f n a = 29 then 2 else 3 : Int32) = o := ⟨_, rfl⟩
        rw [ho] at hr
        have go : ∀ (l3 : Option Value), (l3 = none ∨ ∃ z, l3 = some (.int z)) → (kd f n a = 29 ∨ kd f n a = 30) → bd (pass a) (fun a1 _ => bd (U a1) (fun a' c' => sumL (kd f n) U k a' (c ++ c' ++ [(o, 0)]))) = res → hV G (m_parseSum_4 (hQp xEx none (rr 38 51 (some 58) y) σ τ (fun σ' => k7 σ σ' ∧ pEx f n sz res σ σ'))) 0 0 shp 47 [some (.ref (hgA G 7)), some (.int (nI 4)), some (.int (nI i)), some (.int o)] [] (rr 38 51 (some 58) y) σ1 τ := by
          intro l3 hl3 hop hr
          refine hv_aload_n dX4_parseSum_47 rfl ?_
          refine hv_aload_n dX4_parseSum_48 rfl ?_
          refine hv_geti dX4_parseSum_49 fl_X4_29 (by first | rfl | assumption) rfl ?_
          refine hv_cv1 (c_pass tk1 hp2 (fun b w q => by cases q; omega)) dX4_parseSum_52 ml_X4_63 mk_X4_take (by first | rfl | assumption) rfl rfl rfl rfl rfl ?_
          rintro _ _ σ2 _ ⟨rfl, rfl, rfl, r1, r2, r3⟩
          have r4 : pSt f n (pass a) σ2 := r3
          have hlw2 : pLw sz c σ σ2 := pLw_of hp3 (r1 58 (by decide)) (r1 59 (by decide)) (r1 60 (by decide))
          have hz2 : szOk (sz + c.length) (pass a) σ2 := ⟨hlw2.2.1, by omega, fun b w q => by have := pass_r q; omega⟩
          have tk2 : tokC f n σ2 := tokC_of tk1 r1 rfl
          refine hv_aload_n dX4_parseSum_55 rfl ?_
          refine hv_iload_n dX4_parseSum_56 rfl ?_
          refine hv_cv1 (call tk2 r4 hz2) dX4_parseSum_57 ml_X4_87 mk_X4_parseProduct (by first | rfl | assumption) rfl rfl rfl rfl rfl ?_
          rintro _ _ σ3 _ ⟨rfl, rfl, rfl, t1, t2, t3, t9⟩
          have hso : okG (kd f n) a (fun a' c' => a + 1 < a' ∧ c'.length ≤ a' - (a + 1)) (bd (pass a) (fun a _ => U a)) := okG_bd _ (okG_pass _ ha4 (by omega)) (fun a1 _ _ a4 ea => by subst ea; exact hUo (a + 1) a4)
          rw [← bd_assoc] at hr
          obtain ⟨r5, hr5⟩ : ∃ r5, bd (pass a) (fun a _ => U a) = r5 := ⟨_, rfl⟩
          rw [hr5] at t3 t9 hso hr
          obtain ⟨z, hzz, hz4, hz6⟩ : ∃ z, σ3 58 5 = nI z ∧ z ≤ 410 ∧ ∀ a' c', r5 = .inr (a', c') → z = sz + c.length + c'.length ∧ z + 1 ≤ 10 + a' := by
            rcases r5 with e | ⟨a', c'⟩
            · obtain ⟨z, q1, q2⟩ := t9.2
              exact ⟨z, q2, q1, fun _ _ q => nomatch q⟩
            · have h9 := hso.2.2.2
              have h8 := hso.2.1
              exact ⟨sz + c.length + c'.length, t9.1.2.1, by omega, fun _ _ q => by cases q; exact ⟨rfl, by omega⟩⟩
          refine hv_aload_n dX4_parseSum_60 rfl ?_
          refine hv_getr dX4_parseSum_61 fl_X4_15 (by first | rfl | assumption) rfl (by first | rfl | assumption) ?_
          refine hv_iload_n dX4_parseSum_64 rfl ?_
          refine hv_iconst (v := 0) dX4_parseSum_65 (by decide) ?_
          refine hv_cv2 (c_lput hzz hz4) dX4_parseSum_66 ml_X4_80 mk_X1_put (by first | rfl | assumption) rfl rfl rfl rfl rfl ?_
          rintro _ _ σ4 _ ⟨rfl, rfl, rfl, w1, w2⟩
          refine hv_pop dX4_parseSum_69 rfl ?_
          refine hv_iinc dX4_parseSum_70 rfl (nI_1 i) rfl rfl ?_
          refine hv_goto (tgt := 7) dX4_parseSum_73 (by decide) ?_
          refine ih (i + 1) (bd r5 (fun a' c' => .inr (a', c ++ c' ++ [(o, 0)]))) res σ4 _ (by omega) (Or.inr ⟨_, rfl⟩) (off_tr (off_tr (off_tr hσ r1 (Z := xEx) (by decide) (by decide)) t1 (Z := xEx) (by decide) (by decide)) w1 (by decide) (by decide)) (k7_tr (k7_tr (k7_tr hk r2) t2) (fun j _ _ _ => by rw [w1 7 (by decide)])) ?_ (by rw [bd_assoc]; exact hr)
          rcases r5 with e | ⟨a', c'⟩
          · exact ⟨pSt_of t3 (w1 7 (by decide)), pLg_tr (fun j hj => (t9.1 j hj).trans (hlw2.1 j hj)) (pLg_p hzz hz4 w2)⟩
          · obtain ⟨e1, e2⟩ := hz6 a' c' rfl
            have h8 := hso.2.1
            subst e1
            exact ⟨pSt_of t3 (w1 7 (by decide)), pLw_tr (pLw_tr hlw2 t9.1) (by rw [List.length_append, ← Nat.add_assoc]; exact pLw_p1 (by omega) w2), by rw [List.length_append, List.length_append, List.length_singleton]; omega⟩
        rcases hl3 with rfl | ⟨z, rfl⟩
        · skip
          refine hv_iload_n dX4_parseSum_7 rfl ?_
          refine hv_sipush (v := 400) dX4_parseSum_8 (by decide) ?_
          refine hv_icmp_gt (tgt := 76) dX4_parseSum_11 (by decide) (fun c_11 => absurd c_11 ((nI_nlt (a := 400) (by omega) (by decide)))) (fun c_11 => ?_)
          refine hv_aload_n dX4_parseSum_14 rfl ?_
          refine hv_geti dX4_parseSum_15 fl_X4_41 (by first | rfl | assumption) rfl ?_
          refine hv_if_ne (tgt := 76) dX4_parseSum_18 (by decide) (fun c_18 => absurd (h1) c_18) (fun c_18 => ?_)
          refine hv_aload_n dX4_parseSum_21 rfl ?_
          refine hv_bipush (v := 29) dX4_parseSum_22 (by decide) ?_
          refine hv_bipush (v := 30) dX4_parseSum_24 (by decide) ?_
          refine hv_cv2 (c_isOne) dX4_parseSum_26 ml_X4_90 mk_X4_isOne (by first | rfl | assumption) rfl rfl rfl rfl rfl ?_
          rintro _ _ _ _ ⟨rfl, rfl, rfl, rfl⟩
          rw [h3]
          refine hv_if_eq (tgt := 76) dX4_parseSum_29 (by decide) (fun c_29 => ?_) (fun c_29 => ?_)
          · have hop : ¬ (kd f n a = 29 ∨ kd f n a = 30) := fun q => of_decide_eq_false (bI_0 c_29) (by rcases q with q | q; exact Or.inl (by rw [q]; rfl); exact Or.inr (by rw [q]; rfl))
            rw [if_neg hop] at hr
            refine hv_vret dX4_parseSum_76 rfl ?_
            rw [← hr]; exact ⟨rfl, rfl, rfl, hσ, hk, hp2, hp3, hp4⟩
          · have hop : kd f n a = 29 ∨ kd f n a = 30 := by
              rcases of_decide_eq_true (bI_1 c_29) with q | q
              · exact Or.inl ((nI_eq (b := 29) (by omega) (by decide)).mp q)
              · exact Or.inr ((nI_eq (b := 30) (by omega) (by decide)).mp q)
            rw [if_pos hop] at hr
            refine hv_aload_n dX4_parseSum_32 rfl ?_
            refine hv_geti dX4_parseSum_33 fl_X4_29 (by first | rfl | assumption) rfl ?_
            refine hv_bipush (v := 29) dX4_parseSum_36 (by decide) ?_
            rw [h3]
            refine hv_icmp_ne (tgt := 45) dX4_parseSum_38 (by decide) (fun c_38 => ?_) (fun c_38 => ?_)
            · rw [if_neg (fun q => c_38 (by rw [q]; rfl))] at ho
              refine hv_iconst (v := 3) dX4_parseSum_45 (by decide) ?_
              refine hv_str (congrArg (fun z => [Value.int z]) ho) ?_
              refine hv_istore_n dX4_parseSum_46 rfl rfl ?_
              exact go none (Or.inl rfl) hop hr
            · rw [if_pos ((nI_eq (b := 29) (by omega) (by decide)).mp c_38)] at ho
              refine hv_iconst (v := 2) dX4_parseSum_41 (by decide) ?_
              refine hv_goto (tgt := 46) dX4_parseSum_42 (by decide) ?_
              refine hv_str (congrArg (fun z => [Value.int z]) ho) ?_
              refine hv_istore_n dX4_parseSum_46 rfl rfl ?_
              exact go none (Or.inl rfl) hop hr
        · skip
          refine hv_iload_n dX4_parseSum_7 rfl ?_
          refine hv_sipush (v := 400) dX4_parseSum_8 (by decide) ?_
          refine hv_icmp_gt (tgt := 76) dX4_parseSum_11 (by decide) (fun c_11 => absurd c_11 ((nI_nlt (a := 400) (by omega) (by decide)))) (fun c_11 => ?_)
          refine hv_aload_n dX4_parseSum_14 rfl ?_
          refine hv_geti dX4_parseSum_15 fl_X4_41 (by first | rfl | assumption) rfl ?_
          refine hv_if_ne (tgt := 76) dX4_parseSum_18 (by decide) (fun c_18 => absurd (h1) c_18) (fun c_18 => ?_)
          refine hv_aload_n dX4_parseSum_21 rfl ?_
          refine hv_bipush (v := 29) dX4_parseSum_22 (by decide) ?_
          refine hv_bipush (v := 30) dX4_parseSum_24 (by decide) ?_
          refine hv_cv2 (c_isOne) dX4_parseSum_26 ml_X4_90 mk_X4_isOne (by first | rfl | assumption) rfl rfl rfl rfl rfl ?_
          rintro _ _ _ _ ⟨rfl, rfl, rfl, rfl⟩
          rw [h3]
          refine hv_if_eq (tgt := 76) dX4_parseSum_29 (by decide) (fun c_29 => ?_) (fun c_29 => ?_)
          · have hop : ¬ (kd f n a = 29 ∨ kd f n a = 30) := fun q => of_decide_eq_false (bI_0 c_29) (by rcases q with q | q; exact Or.inl (by rw [q]; rfl); exact Or.inr (by rw [q]; rfl))
            rw [if_neg hop] at hr
            refine hv_vret dX4_parseSum_76 rfl ?_
            rw [← hr]; exact ⟨rfl, rfl, rfl, hσ, hk, hp2, hp3, hp4⟩
          · have hop : kd f n a = 29 ∨ kd f n a = 30 := by
              rcases of_decide_eq_true (bI_1 c_29) with q | q
              · exact Or.inl ((nI_eq (b := 29) (by omega) (by decide)).mp q)
              · exact Or.inr ((nI_eq (b := 30) (by omega) (by decide)).mp q)
            rw [if_pos hop] at hr
            refine hv_aload_n dX4_parseSum_32 rfl ?_
            refine hv_geti dX4_parseSum_33 fl_X4_29 (by first | rfl | assumption) rfl ?_
            refine hv_bipush (v := 29) dX4_parseSum_36 (by decide) ?_
            rw [h3]
            refine hv_icmp_ne (tgt := 45) dX4_parseSum_38 (by decide) (fun c_38 => ?_) (fun c_38 => ?_)
            · rw [if_neg (fun q => c_38 (by rw [q]; rfl))] at ho
              refine hv_iconst (v := 3) dX4_parseSum_45 (by decide) ?_
              refine hv_str (congrArg (fun z => [Value.int z]) ho) ?_
              refine hv_istore_n dX4_parseSum_46 rfl rfl ?_
              exact go none (Or.inl rfl) hop hr
            · rw [if_pos ((nI_eq (b := 29) (by omega) (by decide)).mp c_38)] at ho
              refine hv_iconst (v := 2) dX4_parseSum_41 (by decide) ?_
              refine hv_goto (tgt := 46) dX4_parseSum_42 (by decide) ?_
              refine hv_str (congrArg (fun z => [Value.int z]) ho) ?_
              refine hv_istore_n dX4_parseSum_46 rfl rfl ?_
              exact go none (Or.inl rfl) hop hr
  refine hv_aload_n dX4_parseSum_0 rfl ?_
  refine hv_iload_n dX4_parseSum_1 rfl ?_
  refine hv_cv1 (call ht hs hz) dX4_parseSum_2 ml_X4_87 mk_X4_parseProduct (by first | rfl | assumption) rfl rfl rfl rfl rfl ?_
  rintro _ _ σ1 _ ⟨rfl, rfl, rfl, q1, q2, q3⟩
  refine hv_iconst (v := 0) dX4_parseSum_5 (by decide) ?_
  refine hv_istore_n dX4_parseSum_6 rfl rfl ?_
  exact loop 401 0 (bd s (fun a _ => U a)) _ σ1 none (by omega) (Or.inl rfl) q1 q2 q3 (by rw [bd_assoc])
set_option maxRecDepth 100000 in
theorem c_parseUnit_3 {f : hF} {n sz : Nat} {s : hPR Unit} (ht : tokC f n σ) (hs : pSt f n s σ) (hz : szOk sz s σ) : hCal G (m_parseUnit_3 (hQp xEx none (rr 38 51 (some 58) y) σ τ (fun σ' => k7 σ σ' ∧ pEx f n sz (bd s (fun a _ => uX (kd f n) (vl f n) 3 a)) σ σ'))) [.ref (hgA G 7), .int (nI 3)] shp (rr 38 51 (some 58) y) σ τ := by
  refine hv_enter pn_X4 rfl ?_
  obtain ⟨z1, z2, z3⟩ := hz
  rcases s with ⟨z, t⟩ | ⟨a, u⟩
  · have h1 := hs.1
    have hne : ¬ σ 7 7 = 0 := by rw [h1]; exact nI_ne0 (by have := hs.2.1; omega) (by have := hs.2.1; omega)
    refine hv_aload_n dX4_parseUnit_0 rfl ?_
    refine hv_geti dX4_parseUnit_1 fl_X4_41 (by first | rfl | assumption) rfl ?_
    refine hv_if_eq (tgt := 8) dX4_parseUnit_4 (by decide) (fun c_4 => absurd c_4 (hne)) (fun c_4 => ?_)
    refine hv_vret dX4_parseUnit_7 rfl ?_
    exact ⟨rfl, rfl, rfl, fun _ _ => rfl, k7_rf, hs, fun _ _ => rfl, sz, z2, z1⟩
  · have hsz := z3 a u rfl
    have h1 := hs.1
    have h2 := hs.2.1
    have h3 := hs.2.2.1
    have h4 := hs.2.2.2
    have ha := h4.1
    have hkl := kd_le f n a
    have hu := uX_s (kd f n) (vl f n) 2 a
    rw [show bd (Sum.inr (a, u) : hPR Unit) (fun a _ => uX (kd f n) (vl f n) 3 a) = _ from hu]
    have leaf : ∀ (k o : Int32) (σ1 : hS), (∀ k, k ∉ [58, 59, 60] → σ1 k = σ k) → pPut sz k o σ σ1 → tokC f n σ1 ∧ pSt f n (.inr (a, u)) σ1 ∧ ∀ σ2 : hS, (∀ k, k ∉ [7] → σ2 k = σ1 k) → k7 σ1 σ2 → pSt f n (bd (Sum.inr (a, u) : hPR Unit) (fun a _ => pass a)) σ2 → (∀ c, c ∉ xEx → σ2 c = σ c) ∧ k7 σ σ2 ∧ pEx f n sz (bd (pass a) (fun a _ => .inr (a, [(k, o)]))) σ σ2 := by
      intro k o σ1 q1 q2
      refine ⟨tokC_of ht q1 rfl, pSt_of hs (q1 7 (by decide)), fun σ2 r1 r2 r3 => ⟨off_tr q1 r1 (by decide) (by decide), k7_tr (fun j _ _ _ => by rw [q1 7 (by decide)]) r2, ?_⟩⟩
      have r4 : pSt f n (pass a) σ2 := r3
      unfold pass at r4 ⊢
      by_cases c : a < 400
      · rw [if_pos c] at r4 ⊢
        exact ⟨r4, pLw_of (pLw_p1 (by omega) q2) (r1 58 (by decide)) (r1 59 (by decide)) (r1 60 (by decide)), by simp; omega⟩
      · rw [if_neg c] at r4 ⊢
        exact ⟨r4, pLg_of (pLg_p z1 z2 q2) (r1 58 (by decide))⟩
    have flt : ∀ v : Nat, (v = 1 ∨ v = 2) → pEx f n sz (.inl (v, a)) σ (va_up σ 7 (upd (σ 7) 7 (nI v))) := by
      intro v hv
      exact ⟨⟨by rw [hup_eq, pk_us], hv, by rw [hup_eq, pk_un (by decide)]; exact h2, h4⟩, fun j hj => by rw [hva_ne (by decide)], sz, z2, by rw [hva_ne (by decide)]; exact z1⟩
    refine hv_aload_n dX4_parseUnit_0 rfl ?_
    refine hv_geti dX4_parseUnit_1 fl_X4_41 (by first | rfl | assumption) rfl ?_
    refine hv_if_eq (tgt := 8) dX4_parseUnit_4 (by decide) (fun c_4 => ?_) (fun c_4 => absurd (h1) c_4)
    refine hv_aload_n dX4_parseUnit_8 rfl ?_
    refine hv_geti dX4_parseUnit_9 fl_X4_29 (by first | rfl | assumption) rfl ?_
    refine hv_bipush (v := 24) dX4_parseUnit_12 (by decide) ?_
    rw [h3]
    refine hv_icmp_ne (tgt := 48) dX4_parseUnit_14 (by decide) (fun c_14 => ?_) (fun c_14 => ?_)
    · have hk : ¬ kd f n a = 24 := fun q => c_14 (by rw [q]; rfl)
      rw [if_neg hk]
      refine hv_aload_n dX4_parseUnit_48 rfl ?_
      refine hv_geti dX4_parseUnit_49 fl_X4_29 (by first | rfl | assumption) rfl ?_
      refine hv_bipush (v := 14) dX4_parseUnit_52 (by decide) ?_
      rw [h3]
      refine hv_icmp_lt (tgt := 93) dX4_parseUnit_54 (by decide) (fun c_54 => ?_) (fun c_54 => ?_)
      · have hv : ¬ (14 ≤ kd f n a ∧ kd f n a ≤ 22) := fun q => by have := (nI_ltI (b := 14) (by omega) (by decide)).mp c_54; omega
        rw [if_neg hv]
        refine hv_aload_n dX4_parseUnit_93 rfl ?_
        refine hv_geti dX4_parseUnit_94 fl_X4_29 (by first | rfl | assumption) rfl ?_
        refine hv_bipush (v := 34) dX4_parseUnit_97 (by decide) ?_
        rw [h3]
        refine hv_icmp_eq (tgt := 110) dX4_parseUnit_99 (by decide) (fun c_99 => ?_) (fun c_99 => ?_)
        · have ho : kd f n a = 34 := (nI_eq (b := 34) (by omega) (by decide)).mp c_99
          rw [if_pos ho]
          refine hv_iload_n dX4_parseUnit_110 rfl ?_
          refine hv_bipush (v := 6) dX4_parseUnit_111 (by decide) ?_
          refine hv_icmp_lt (tgt := 124) dX4_parseUnit_113 (by decide) (fun c_113 => ?_) (fun c_113 => absurd ((by decide)) c_113)
          refine hv_aload_n dX4_parseUnit_124 rfl ?_
          refine hv_aload_n dX4_parseUnit_125 rfl ?_
          refine hv_geti dX4_parseUnit_126 fl_X4_29 (by first | rfl | assumption) rfl ?_
          refine hv_cv1 (c_pass ht hs (fun b w q => by cases q; rw [ho]; decide)) dX4_parseUnit_129 ml_X4_63 mk_X4_take (by first | rfl | assumption) rfl rfl rfl rfl rfl ?_
          rintro _ _ σ2 _ ⟨rfl, rfl, rfl, r1, r2, r3⟩
          have r4 : pSt f n (pass a) σ2 := r3
          have hz2 : szOk sz (pass a) σ2 := ⟨by rw [r1 58 (by decide)]; exact z1, z2, fun b w q => by have := pass_r q; omega⟩
          refine hv_aload_n dX4_parseUnit_132 rfl ?_
          refine hv_iload_n dX4_parseUnit_133 rfl ?_
          refine hv_iconst (v := 1) dX4_parseUnit_134 (by decide) ?_
          refine hv_iadd dX4_parseUnit_135 ?_
          refine hv_cv1 (c_parseSum_4 (tokC_of ht r1 rfl) r4 hz2) dX4_parseUnit_136 ml_X4_77 mk_X4_parseSum (by first | rfl | assumption) rfl rfl rfl rfl rfl ?_
          rintro _ _ σ3 _ ⟨rfl, rfl, rfl, t1, t2, t3, t9⟩
          obtain ⟨r5, hr5⟩ : ∃ r5, bd (pass a) (fun a _ => sumX (kd f n) (uX (kd f n) (vl f n) 2) a) = r5 := ⟨_, rfl⟩
          rw [hr5] at t3 t9
          rw [← bd_assoc, hr5]
          have t4 : tokC f n σ3 := tokC_of (tokC_of ht r1 rfl) t1 rfl
          refine hv_aload_n dX4_parseUnit_139 rfl ?_
          refine hv_bipush (v := 35) dX4_parseUnit_140 (by decide) ?_
          refine hv_cv1 (c_take (k := 35) t4 t3 (by decide) (by decide)) dX4_parseUnit_142 ml_X4_63 mk_X4_take (by first | rfl | assumption) rfl rfl rfl rfl rfl ?_
          rintro _ _ σ4 _ ⟨rfl, rfl, rfl, w1, w2, w3⟩
          refine hv_vret dX4_parseUnit_145 rfl ?_
          first
            | exact ⟨rfl, rfl, rfl, m1, m2, m3⟩
            | exact ⟨rfl, rfl, rfl, off_up (fun _ _ => rfl) (by decide), fun j j1 j2 j3 => by rw [hup_eq, pk_un j3], flt 1 (Or.inl rfl)⟩
            | (refine ⟨rfl, rfl, rfl, off_tr (off_tr r1 t1 (Z := xEx) (by decide) (by decide)) w1 (by decide) (by decide), k7_tr (k7_tr r2 t2) w2, ?_⟩
               have e2 : ∀ j, j ≠ 5 → σ2 58 j = σ 58 j := fun j _ => by rw [r1 58 (by decide)]
               rcases r5 with e | ⟨a', c'⟩
               · exact ⟨w3, pLg_of (pLg_tr e2 t9) (w1 58 (by decide))⟩
               · obtain ⟨u1, u2⟩ := t9
                 have hw : pSt f n (tk (kd f n) 35 a') σ4 := w3
                 have hlw : pLw sz c' σ σ4 := pLw_of (pLw_tr (c := []) (pLw_0 z1 (r1 58 (by decide)) (r1 59 (by decide)) (r1 60 (by decide))) u1) (w1 58 (by decide)) (w1 59 (by decide)) (w1 60 (by decide))
                 show pEx f n sz (bd (tk (kd f n) 35 a') (fun a'' _ => .inr (a'', c'))) σ σ4
                 have ha' : a' ≤ 400 := t3.2.2.2.1
                 rcases hr6 : tk (kd f n) 35 a' with e | ⟨a'', u'⟩
                 · rw [hr6] at hw
                   exact ⟨hw, pLw_lg hlw (by omega)⟩
                 · rw [hr6] at hw
                   have ha2 := (tk_r hr6).2.2
                   exact ⟨by cases u'; exact hw, hlw, by omega⟩)
        · have ho : ¬ kd f n a = 34 := fun q => c_99 (by rw [q]; rfl)
          rw [if_neg ho]
          refine hv_aload_n dX4_parseUnit_102 rfl ?_
          refine hv_iconst (v := 1) dX4_parseUnit_103 (by decide) ?_
          refine hv_cv1 (c_pfail) dX4_parseUnit_104 ml_X4_60 mk_X4_fail (by first | rfl | assumption) rfl rfl rfl rfl rfl ?_
          rintro _ _ _ _ ⟨rfl, rfl, rfl, rfl⟩
          rw [if_pos h1]
          refine hv_goto (tgt := 145) dX4_parseUnit_107 (by decide) ?_
          refine hv_vret dX4_parseUnit_145 rfl ?_
          first
            | exact ⟨rfl, rfl, rfl, m1, m2, m3⟩
            | exact ⟨rfl, rfl, rfl, off_up (fun _ _ => rfl) (by decide), fun j j1 j2 j3 => by rw [hup_eq, pk_un j3], flt 1 (Or.inl rfl)⟩
            | (refine ⟨rfl, rfl, rfl, off_tr (off_tr r1 t1 (Z := xEx) (by decide) (by decide)) w1 (by decide) (by decide), k7_tr (k7_tr r2 t2) w2, ?_⟩
               have e2 : ∀ j, j ≠ 5 → σ2 58 j = σ 58 j := fun j _ => by rw [r1 58 (by decide)]
               rcases r5 with e | ⟨a', c'⟩
               · exact ⟨w3, pLg_of (pLg_tr e2 t9) (w1 58 (by decide))⟩
               · obtain ⟨u1, u2⟩ := t9
                 have hw : pSt f n (tk (kd f n) 35 a') σ4 := w3
                 have hlw : pLw sz c' σ σ4 := pLw_of (pLw_tr (c := []) (pLw_0 z1 (r1 58 (by decide)) (r1 59 (by decide)) (r1 60 (by decide))) u1) (w1 58 (by decide)) (w1 59 (by decide)) (w1 60 (by decide))
                 show pEx f n sz (bd (tk (kd f n) 35 a') (fun a'' _ => .inr (a'', c'))) σ σ4
                 have ha' : a' ≤ 400 := t3.2.2.2.1
                 rcases hr6 : tk (kd f n) 35 a' with e | ⟨a'', u'⟩
                 · rw [hr6] at hw
                   exact ⟨hw, pLw_lg hlw (by omega)⟩
                 · rw [hr6] at hw
                   have ha2 := (tk_r hr6).2.2
                   exact ⟨by cases u'; exact hw, hlw, by omega⟩)
      · refine hv_aload_n dX4_parseUnit_57 rfl ?_
        refine hv_geti dX4_parseUnit_58 fl_X4_29 (by first | rfl | assumption) rfl ?_
        refine hv_bipush (v := 22) dX4_parseUnit_61 (by decide) ?_
        rw [h3]
        refine hv_icmp_gt (tgt := 93) dX4_parseUnit_63 (by decide) (fun c_63 => ?_) (fun c_63 => ?_)
        · have hv : ¬ (14 ≤ kd f n a ∧ kd f n a ≤ 22) := fun q => by have := (nI_ltI (a := 22) (by decide) (by omega)).mp c_63; omega
          rw [if_neg hv]
          refine hv_aload_n dX4_parseUnit_93 rfl ?_
          refine hv_geti dX4_parseUnit_94 fl_X4_29 (by first | rfl | assumption) rfl ?_
          refine hv_bipush (v := 34) dX4_parseUnit_97 (by decide) ?_
          rw [h3]
          refine hv_icmp_eq (tgt := 110) dX4_parseUnit_99 (by decide) (fun c_99 => ?_) (fun c_99 => ?_)
          · have ho : kd f n a = 34 := (nI_eq (b := 34) (by omega) (by decide)).mp c_99
            rw [if_pos ho]
            refine hv_iload_n dX4_parseUnit_110 rfl ?_
            refine hv_bipush (v := 6) dX4_parseUnit_111 (by decide) ?_
            refine hv_icmp_lt (tgt := 124) dX4_parseUnit_113 (by decide) (fun c_113 => ?_) (fun c_113 => absurd ((by decide)) c_113)
            refine hv_aload_n dX4_parseUnit_124 rfl ?_
            refine hv_aload_n dX4_parseUnit_125 rfl ?_
            refine hv_geti dX4_parseUnit_126 fl_X4_29 (by first | rfl | assumption) rfl ?_
            refine hv_cv1 (c_pass ht hs (fun b w q => by cases q; rw [ho]; decide)) dX4_parseUnit_129 ml_X4_63 mk_X4_take (by first | rfl | assumption) rfl rfl rfl rfl rfl ?_
            rintro _ _ σ2 _ ⟨rfl, rfl, rfl, r1, r2, r3⟩
            have r4 : pSt f n (pass a) σ2 := r3
            have hz2 : szOk sz (pass a) σ2 := ⟨by rw [r1 58 (by decide)]; exact z1, z2, fun b w q => by have := pass_r q; omega⟩
            refine hv_aload_n dX4_parseUnit_132 rfl ?_
            refine hv_iload_n dX4_parseUnit_133 rfl ?_
            refine hv_iconst (v := 1) dX4_parseUnit_134 (by decide) ?_
            refine hv_iadd dX4_parseUnit_135 ?_
            refine hv_cv1 (c_parseSum_4 (tokC_of ht r1 rfl) r4 hz2) dX4_parseUnit_136 ml_X4_77 mk_X4_parseSum (by first | rfl | assumption) rfl rfl rfl rfl rfl ?_
            rintro _ _ σ3 _ ⟨rfl, rfl, rfl, t1, t2, t3, t9⟩
            obtain ⟨r5, hr5⟩ : ∃ r5, bd (pass a) (fun a _ => sumX (kd f n) (uX (kd f n) (vl f n) 2) a) = r5 := ⟨_, rfl⟩
            rw [hr5] at t3 t9
            rw [← bd_assoc, hr5]
            have t4 : tokC f n σ3 := tokC_of (tokC_of ht r1 rfl) t1 rfl
            refine hv_aload_n dX4_parseUnit_139 rfl ?_
            refine hv_bipush (v := 35) dX4_parseUnit_140 (by decide) ?_
            refine hv_cv1 (c_take (k := 35) t4 t3 (by decide) (by decide)) dX4_parseUnit_142 ml_X4_63 mk_X4_take (by first | rfl | assumption) rfl rfl rfl rfl rfl ?_
            rintro _ _ σ4 _ ⟨rfl, rfl, rfl, w1, w2, w3⟩
            refine hv_vret dX4_parseUnit_145 rfl ?_
            first
              | exact ⟨rfl, rfl, rfl, m1, m2, m3⟩
              | exact ⟨rfl, rfl, rfl, off_up (fun _ _ => rfl) (by decide), fun j j1 j2 j3 => by rw [hup_eq, pk_un j3], flt 1 (Or.inl rfl)⟩
              | (refine ⟨rfl, rfl, rfl, off_tr (off_tr r1 t1 (Z := xEx) (by decide) (by decide)) w1 (by decide) (by decide), k7_tr (k7_tr r2 t2) w2, ?_⟩
                 have e2 : ∀ j, j ≠ 5 → σ2 58 j = σ 58 j := fun j _ => by rw [r1 58 (by decide)]
                 rcases r5 with e | ⟨a', c'⟩
                 · exact ⟨w3, pLg_of (pLg_tr e2 t9) (w1 58 (by decide))⟩
                 · obtain ⟨u1, u2⟩ := t9
                   have hw : pSt f n (tk (kd f n) 35 a') σ4 := w3
                   have hlw : pLw sz c' σ σ4 := pLw_of (pLw_tr (c := []) (pLw_0 z1 (r1 58 (by decide)) (r1 59 (by decide)) (r1 60 (by decide))) u1) (w1 58 (by decide)) (w1 59 (by decide)) (w1 60 (by decide))
                   show pEx f n sz (bd (tk (kd f n) 35 a') (fun a'' _ => .inr (a'', c'))) σ σ4
                   have ha' : a' ≤ 400 := t3.2.2.2.1
                   rcases hr6 : tk (kd f n) 35 a' with e | ⟨a'', u'⟩
                   · rw [hr6] at hw
                     exact ⟨hw, pLw_lg hlw (by omega)⟩
                   · rw [hr6] at hw
                     have ha2 := (tk_r hr6).2.2
                     exact ⟨by cases u'; exact hw, hlw, by omega⟩)
          · have ho : ¬ kd f n a = 34 := fun q => c_99 (by rw [q]; rfl)
            rw [if_neg ho]
            refine hv_aload_n dX4_parseUnit_102 rfl ?_
            refine hv_iconst (v := 1) dX4_parseUnit_103 (by decide) ?_
            refine hv_cv1 (c_pfail) dX4_parseUnit_104 ml_X4_60 mk_X4_fail (by first | rfl | assumption) rfl rfl rfl rfl rfl ?_
            rintro _ _ _ _ ⟨rfl, rfl, rfl, rfl⟩
            rw [if_pos h1]
            refine hv_goto (tgt := 145) dX4_parseUnit_107 (by decide) ?_
            refine hv_vret dX4_parseUnit_145 rfl ?_
            first
              | exact ⟨rfl, rfl, rfl, m1, m2, m3⟩
              | exact ⟨rfl, rfl, rfl, off_up (fun _ _ => rfl) (by decide), fun j j1 j2 j3 => by rw [hup_eq, pk_un j3], flt 1 (Or.inl rfl)⟩
              | (refine ⟨rfl, rfl, rfl, off_tr (off_tr r1 t1 (Z := xEx) (by decide) (by decide)) w1 (by decide) (by decide), k7_tr (k7_tr r2 t2) w2, ?_⟩
                 have e2 : ∀ j, j ≠ 5 → σ2 58 j = σ 58 j := fun j _ => by rw [r1 58 (by decide)]
                 rcases r5 with e | ⟨a', c'⟩
                 · exact ⟨w3, pLg_of (pLg_tr e2 t9) (w1 58 (by decide))⟩
                 · obtain ⟨u1, u2⟩ := t9
                   have hw : pSt f n (tk (kd f n) 35 a') σ4 := w3
                   have hlw : pLw sz c' σ σ4 := pLw_of (pLw_tr (c := []) (pLw_0 z1 (r1 58 (by decide)) (r1 59 (by decide)) (r1 60 (by decide))) u1) (w1 58 (by decide)) (w1 59 (by decide)) (w1 60 (by decide))
                   show pEx f n sz (bd (tk (kd f n) 35 a') (fun a'' _ => .inr (a'', c'))) σ σ4
                   have ha' : a' ≤ 400 := t3.2.2.2.1
                   rcases hr6 : tk (kd f n) 35 a' with e | ⟨a'', u'⟩
                   · rw [hr6] at hw
                     exact ⟨hw, pLw_lg hlw (by omega)⟩
                   · rw [hr6] at hw
                     have ha2 := (tk_r hr6).2.2
                     exact ⟨by cases u'; exact hw, hlw, by omega⟩)
        · have hv : 14 ≤ kd f n a ∧ kd f n a ≤ 22 := ⟨(nI_leI (a := 14) (by decide) (by omega)).mp (Int32.not_lt.mp c_54), (nI_leI (b := 22) (by omega) (by decide)).mp (Int32.not_lt.mp c_63)⟩
          rw [if_pos hv]
          refine hv_aload_n dX4_parseUnit_66 rfl ?_
          refine hv_getr dX4_parseUnit_67 fl_X4_15 (by first | rfl | assumption) rfl (by first | rfl | assumption) ?_
          refine hv_iconst (v := 1) dX4_parseUnit_70 (by decide) ?_
          refine hv_aload_n dX4_parseUnit_71 rfl ?_
          refine hv_geti dX4_parseUnit_72 fl_X4_29 (by first | rfl | assumption) rfl ?_
          refine hv_bipush (v := 14) dX4_parseUnit_75 (by decide) ?_
          rw [h3]
          refine hv_isub dX4_parseUnit_77 ?_
          rw [show nI (kd f n a) - 14 = nI (kd f n a - 14) from pk_sub (b := 14) hv.1]
          refine hv_cv2 (c_lput z1 z2) dX4_parseUnit_78 ml_X4_80 mk_X1_put (by first | rfl | assumption) rfl rfl rfl rfl rfl ?_
          rintro _ _ σ1 _ ⟨rfl, rfl, rfl, q1, q2⟩
          obtain ⟨l1, l2, l3⟩ := leaf _ _ σ1 q1 q2
          refine hv_pop dX4_parseUnit_81 rfl ?_
          refine hv_aload_n dX4_parseUnit_82 rfl ?_
          refine hv_aload_n dX4_parseUnit_83 rfl ?_
          refine hv_geti dX4_parseUnit_84 fl_X4_29 (by first | rfl | assumption) rfl ?_
          refine hv_cv1 (c_pass l1 l2 (fun b w q => by cases q; omega)) dX4_parseUnit_87 ml_X4_63 mk_X4_take (by first | rfl | assumption) rfl rfl rfl rfl rfl ?_
          rintro _ _ σ2 _ ⟨rfl, rfl, rfl, r1, r2, r3⟩
          obtain ⟨m1, m2, m3⟩ := l3 σ2 r1 r2 r3
          refine hv_goto (tgt := 145) dX4_parseUnit_90 (by decide) ?_
          refine hv_vret dX4_parseUnit_145 rfl ?_
          first
            | exact ⟨rfl, rfl, rfl, m1, m2, m3⟩
            | exact ⟨rfl, rfl, rfl, off_up (fun _ _ => rfl) (by decide), fun j j1 j2 j3 => by rw [hup_eq, pk_un j3], flt 1 (Or.inl rfl)⟩
            | (refine ⟨rfl, rfl, rfl, off_tr (off_tr r1 t1 (Z := xEx) (by decide) (by decide)) w1 (by decide) (by decide), k7_tr (k7_tr r2 t2) w2, ?_⟩
               have e2 : ∀ j, j ≠ 5 → σ2 58 j = σ 58 j := fun j _ => by rw [r1 58 (by decide)]
               rcases r5 with e | ⟨a', c'⟩
               · exact ⟨w3, pLg_of (pLg_tr e2 t9) (w1 58 (by decide))⟩
               · obtain ⟨u1, u2⟩ := t9
                 have hw : pSt f n (tk (kd f n) 35 a') σ4 := w3
                 have hlw : pLw sz c' σ σ4 := pLw_of (pLw_tr (c := []) (pLw_0 z1 (r1 58 (by decide)) (r1 59 (by decide)) (r1 60 (by decide))) u1) (w1 58 (by decide)) (w1 59 (by decide)) (w1 60 (by decide))
                 show pEx f n sz (bd (tk (kd f n) 35 a') (fun a'' _ => .inr (a'', c'))) σ σ4
                 have ha' : a' ≤ 400 := t3.2.2.2.1
                 rcases hr6 : tk (kd f n) 35 a' with e | ⟨a'', u'⟩
                 · rw [hr6] at hw
                   exact ⟨hw, pLw_lg hlw (by omega)⟩
                 · rw [hr6] at hw
                   have ha2 := (tk_r hr6).2.2
                   exact ⟨by cases u'; exact hw, hlw, by omega⟩)
    · have hk : kd f n a = 24 := (nI_eq (b := 24) (by omega) (by decide)).mp c_14
      rw [if_pos hk]
      refine hv_aload_n dX4_parseUnit_17 rfl ?_
      refine hv_getr dX4_parseUnit_18 fl_X4_15 (by first | rfl | assumption) rfl (by first | rfl | assumption) ?_
      refine hv_iconst (v := 0) dX4_parseUnit_21 (by decide) ?_
      refine hv_aload_n dX4_parseUnit_22 rfl ?_
      refine hv_getr dX4_parseUnit_23 fl_X4_9 (by first | rfl | assumption) rfl (by first | rfl | assumption) ?_
      refine hv_aload_n dX4_parseUnit_26 rfl ?_
      refine hv_geti dX4_parseUnit_27 fl_X4_19 (by first | rfl | assumption) rfl ?_
      rw [h2]
      refine hv_cv1 (c_tvalue ht h4) dX4_parseUnit_30 ml_X4_97 mk_X9_value (by first | rfl | assumption) rfl rfl rfl rfl rfl ?_
      rintro _ _ _ _ ⟨rfl, rfl, rfl, rfl⟩
      refine hv_cv2 (c_lput z1 z2) dX4_parseUnit_33 ml_X4_80 mk_X1_put (by first | rfl | assumption) rfl rfl rfl rfl rfl ?_
      rintro _ _ σ1 _ ⟨rfl, rfl, rfl, q1, q2⟩
      obtain ⟨l1, l2, l3⟩ := leaf _ _ σ1 q1 q2
      refine hv_pop dX4_parseUnit_36 rfl ?_
      refine hv_aload_n dX4_parseUnit_37 rfl ?_
      refine hv_aload_n dX4_parseUnit_38 rfl ?_
      refine hv_geti dX4_parseUnit_39 fl_X4_29 (by first | rfl | assumption) rfl ?_
      refine hv_cv1 (c_pass l1 l2 (fun b w q => by cases q; rw [hk]; decide)) dX4_parseUnit_42 ml_X4_63 mk_X4_take (by first | rfl | assumption) rfl rfl rfl rfl rfl ?_
      rintro _ _ σ2 _ ⟨rfl, rfl, rfl, r1, r2, r3⟩
      obtain ⟨m1, m2, m3⟩ := l3 σ2 r1 r2 r3
      refine hv_goto (tgt := 145) dX4_parseUnit_45 (by decide) ?_
      refine hv_vret dX4_parseUnit_145 rfl ?_
      first
        | exact ⟨rfl, rfl, rfl, m1, m2, m3⟩
        | exact ⟨rfl, rfl, rfl, off_up (fun _ _ => rfl) (by decide), fun j j1 j2 j3 => by rw [hup_eq, pk_un j3], flt 1 (Or.inl rfl)⟩
        | (refine ⟨rfl, rfl, rfl, off_tr (off_tr r1 t1 (Z := xEx) (by decide) (by decide)) w1 (by decide) (by decide), k7_tr (k7_tr r2 t2) w2, ?_⟩
           have e2 : ∀ j, j ≠ 5 → σ2 58 j = σ 58 j := fun j _ => by rw [r1 58 (by decide)]
           rcases r5 with e | ⟨a', c'⟩
           · exact ⟨w3, pLg_of (pLg_tr e2 t9) (w1 58 (by decide))⟩
           · obtain ⟨u1, u2⟩ := t9
             have hw : pSt f n (tk (kd f n) 35 a') σ4 := w3
             have hlw : pLw sz c' σ σ4 := pLw_of (pLw_tr (c := []) (pLw_0 z1 (r1 58 (by decide)) (r1 59 (by decide)) (r1 60 (by decide))) u1) (w1 58 (by decide)) (w1 59 (by decide)) (w1 60 (by decide))
             show pEx f n sz (bd (tk (kd f n) 35 a') (fun a'' _ => .inr (a'', c'))) σ σ4
             have ha' : a' ≤ 400 := t3.2.2.2.1
             rcases hr6 : tk (kd f n) 35 a' with e | ⟨a'', u'⟩
             · rw [hr6] at hw
               exact ⟨hw, pLw_lg hlw (by omega)⟩
             · rw [hr6] at hw
               have ha2 := (tk_r hr6).2.2
               exact ⟨by cases u'; exact hw, hlw, by omega⟩)
set_option maxRecDepth 100000 in
theorem c_parseProduct_3 {f : hF} {n sz : Nat} {s : hPR Unit} (ht : tokC f n σ) (hs : pSt f n s σ) (hz : szOk sz s σ) : hCal G (m_parseProduct_3 (hQp xEx none (rr 38 51 (some 58) y) σ τ (fun σ' => k7 σ σ' ∧ pEx f n sz (bd s (fun a _ => prodX (kd f n) (uX (kd f n) (vl f n) 3) a)) σ σ'))) [.ref (hgA G 7), .int (nI 3)] shp (rr 38 51 (some 58) y) σ τ := by
  refine hv_enter pn_X4 rfl ?_
  obtain ⟨U, hU⟩ : ∃ U : Nat → hPR hCd, uX (kd f n) (vl f n) 3 = U := ⟨_, rfl⟩
  have hUo : ∀ at', at' ≤ 400 → okG (kd f n) at' (fun a c => at' < a ∧ c.length ≤ a - at') (U at') := fun at' h => by
    rw [← hU]
    exact okG_mono _ (uX_ok (kd f n) (vl f n) 3 at' h) (fun a c _ _ q => ⟨q.1, q.2.2.1⟩)
  have call : ∀ {s2 : hPR Unit} {σ2 : hS} {sz2 : Nat}, tokC f n σ2 → pSt f n s2 σ2 → szOk sz2 s2 σ2 → hCal G (m_parseUnit_3 (hQp xEx none (rr 38 51 (some 58) y) σ2 τ (fun σ' => k7 σ2 σ' ∧ pEx f n sz2 (bd s2 (fun a _ => U a)) σ2 σ'))) [.ref (hgA G 7), .int (nI 3)] shp (rr 38 51 (some 58) y) σ2 τ := fun h1 h2 h3 => by
    rw [← hU]; exact c_parseUnit_3 h1 h2 h3
  rw [show (fun a (_ : Unit) => prodX (kd f n) (uX (kd f n) (vl f n) 3) a) = (fun a _ => bd (U a) (fun a c => prodL (kd f n) U 401 a c)) from by rw [← hU]; rfl]
  have loop : ∀ k i r res (σ1 : hS) (l3 : Option Value), i + k = 401 → (l3 = none ∨ ∃ z, l3 = some (.int z)) → (∀ c, c ∉ xEx → σ1 c = σ c) → k7 σ σ1 → pEx f n sz r σ σ1 → bd r (fun a c => prodL (kd f n) U k a c) = res → hV G (m_parseProduct_3 (hQp xEx none (rr 38 51 (some 58) y) σ τ (fun σ' => k7 σ σ' ∧ pEx f n sz res σ σ'))) 0 0 shp 7 [some (.ref (hgA G 7)), some (.int (nI 3)), some (.int (nI i)), l3] [] (rr 38 51 (some 58) y) σ1 τ := by
    intro k
    induction k with
    | zero =>
      intro i r res σ1 l3 hi hl3 hσ hk hp hr
      obtain rfl : i = 401 := by omega
      have hrr : r = res := by rw [← hr]; rcases r with e | ⟨a, c⟩ <;> rfl
      refine hv_iload_n dX4_parseProduct_7 rfl ?_
      refine hv_sipush (v := 400) dX4_parseProduct_8 (by decide) ?_
      refine hv_icmp_gt (tgt := 76) dX4_parseProduct_11 (by decide) (fun c_11 => ?_) (fun c_11 => absurd ((by decide)) c_11)
      refine hv_vret dX4_parseProduct_76 rfl ?_
      rw [← hrr]; exact ⟨rfl, rfl, rfl, hσ, hk, hp⟩
    | succ k ih =>
      intro i r res σ1 l3 hi hl3 hσ hk hp hr
      rcases r with ⟨z, t⟩ | ⟨a, c⟩
      · have hp2 := hp.1
        have h1 := hp2.1
        have hne : ¬ σ1 7 7 = 0 := by rw [h1]; exact nI_ne0 (by have := hp2.2.1; omega) (by have := hp2.2.1; omega)
        refine hv_iload_n dX4_parseProduct_7 rfl ?_
        refine hv_sipush (v := 400) dX4_parseProduct_8 (by decide) ?_
        refine hv_icmp_gt (tgt := 76) dX4_parseProduct_11 (by decide) (fun c_11 => absurd c_11 ((nI_nlt (a := 400) (by omega) (by decide)))) (fun c_11 => ?_)
        refine hv_aload_n dX4_parseProduct_14 rfl ?_
        refine hv_geti dX4_parseProduct_15 fl_X4_41 (by first | rfl | assumption) rfl ?_
        refine hv_if_ne (tgt := 76) dX4_parseProduct_18 (by decide) (fun c_18 => ?_) (fun c_18 => absurd c_18 (hne))
        refine hv_vret dX4_parseProduct_76 rfl ?_
        rw [← hr]; exact ⟨rfl, rfl, rfl, hσ, hk, hp⟩
      · obtain ⟨hp2, hp3, hp4⟩ := hp
        have h1 := hp2.1
        have h3 := hp2.2.2.1
        have ha4 := hp2.2.2.2.1
        have hkl := kd_le f n a
        have tk1 : tokC f n σ1 := tokC_of ht hσ rfl
        rw [show bd (Sum.inr (a, c) : hPR hCd) (fun a c => prodL (kd f n) U (k + 1) a c) = _ from prodL_s (kd f n) U k a c] at hr
        obtain ⟨o, ho⟩ : ∃ o : Int32, (if kd f n a = 31 then 4 else 5 : Int32) = o := ⟨_, rfl⟩
        rw [ho] at hr
        have go : ∀ (l3 : Option Value), (l3 = none ∨ ∃ z, l3 = some (.int z)) → (kd f n a = 31 ∨ kd f n a = 32) → bd (pass a) (fun a1 _ => bd (U a1) (fun a' c' => prodL (kd f n) U k a' (c ++ c' ++ [(o, 0)]))) = res → hV G (m_parseProduct_3 (hQp xEx none (rr 38 51 (some 58) y) σ τ (fun σ' => k7 σ σ' ∧ pEx f n sz res σ σ'))) 0 0 shp 47 [some (.ref (hgA G 7)), some (.int (nI 3)), some (.int (nI i)), some (.int o)] [] (rr 38 51 (some 58) y) σ1 τ := by
          intro l3 hl3 hop hr
          refine hv_aload_n dX4_parseProduct_47 rfl ?_
          refine hv_aload_n dX4_parseProduct_48 rfl ?_
          refine hv_geti dX4_parseProduct_49 fl_X4_29 (by first | rfl | assumption) rfl ?_
          refine hv_cv1 (c_pass tk1 hp2 (fun b w q => by cases q; omega)) dX4_parseProduct_52 ml_X4_63 mk_X4_take (by first | rfl | assumption) rfl rfl rfl rfl rfl ?_
          rintro _ _ σ2 _ ⟨rfl, rfl, rfl, r1, r2, r3⟩
          have r4 : pSt f n (pass a) σ2 := r3
          have hlw2 : pLw sz c σ σ2 := pLw_of hp3 (r1 58 (by decide)) (r1 59 (by decide)) (r1 60 (by decide))
          have hz2 : szOk (sz + c.length) (pass a) σ2 := ⟨hlw2.2.1, by omega, fun b w q => by have := pass_r q; omega⟩
          have tk2 : tokC f n σ2 := tokC_of tk1 r1 rfl
          refine hv_aload_n dX4_parseProduct_55 rfl ?_
          refine hv_iload_n dX4_parseProduct_56 rfl ?_
          refine hv_cv1 (call tk2 r4 hz2) dX4_parseProduct_57 ml_X4_94 mk_X4_parseUnit (by first | rfl | assumption) rfl rfl rfl rfl rfl ?_
          rintro _ _ σ3 _ ⟨rfl, rfl, rfl, t1, t2, t3, t9⟩
          have hso : okG (kd f n) a (fun a' c' => a + 1 < a' ∧ c'.length ≤ a' - (a + 1)) (bd (pass a) (fun a _ => U a)) := okG_bd _ (okG_pass _ ha4 (by omega)) (fun a1 _ _ a4 ea => by subst ea; exact hUo (a + 1) a4)
          rw [← bd_assoc] at hr
          obtain ⟨r5, hr5⟩ : ∃ r5, bd (pass a) (fun a _ => U a) = r5 := ⟨_, rfl⟩
          rw [hr5] at t3 t9 hso hr
          obtain ⟨z, hzz, hz4, hz6⟩ : ∃ z, σ3 58 5 = nI z ∧ z ≤ 410 ∧ ∀ a' c', r5 = .inr (a', c') → z = sz + c.length + c'.length ∧ z + 1 ≤ 10 + a' := by
            rcases r5 with e | ⟨a', c'⟩
            · obtain ⟨z, q1, q2⟩ := t9.2
              exact ⟨z, q2, q1, fun _ _ q => nomatch q⟩
            · have h9 := hso.2.2.2
              have h8 := hso.2.1
              exact ⟨sz + c.length + c'.length, t9.1.2.1, by omega, fun _ _ q => by cases q; exact ⟨rfl, by omega⟩⟩
          refine hv_aload_n dX4_parseProduct_60 rfl ?_
          refine hv_getr dX4_parseProduct_61 fl_X4_15 (by first | rfl | assumption) rfl (by first | rfl | assumption) ?_
          refine hv_iload_n dX4_parseProduct_64 rfl ?_
          refine hv_iconst (v := 0) dX4_parseProduct_65 (by decide) ?_
          refine hv_cv2 (c_lput hzz hz4) dX4_parseProduct_66 ml_X4_80 mk_X1_put (by first | rfl | assumption) rfl rfl rfl rfl rfl ?_
          rintro _ _ σ4 _ ⟨rfl, rfl, rfl, w1, w2⟩
          refine hv_pop dX4_parseProduct_69 rfl ?_
          refine hv_iinc dX4_parseProduct_70 rfl (nI_1 i) rfl rfl ?_
          refine hv_goto (tgt := 7) dX4_parseProduct_73 (by decide) ?_
          refine ih (i + 1) (bd r5 (fun a' c' => .inr (a', c ++ c' ++ [(o, 0)]))) res σ4 _ (by omega) (Or.inr ⟨_, rfl⟩) (off_tr (off_tr (off_tr hσ r1 (Z := xEx) (by decide) (by decide)) t1 (Z := xEx) (by decide) (by decide)) w1 (by decide) (by decide)) (k7_tr (k7_tr (k7_tr hk r2) t2) (fun j _ _ _ => by rw [w1 7 (by decide)])) ?_ (by rw [bd_assoc]; exact hr)
          rcases r5 with e | ⟨a', c'⟩
          · exact ⟨pSt_of t3 (w1 7 (by decide)), pLg_tr (fun j hj => (t9.1 j hj).trans (hlw2.1 j hj)) (pLg_p hzz hz4 w2)⟩
          · obtain ⟨e1, e2⟩ := hz6 a' c' rfl
            have h8 := hso.2.1
            subst e1
            exact ⟨pSt_of t3 (w1 7 (by decide)), pLw_tr (pLw_tr hlw2 t9.1) (by rw [List.length_append, ← Nat.add_assoc]; exact pLw_p1 (by omega) w2), by rw [List.length_append, List.length_append, List.length_singleton]; omega⟩
        rcases hl3 with rfl | ⟨z, rfl⟩
        · skip
          refine hv_iload_n dX4_parseProduct_7 rfl ?_
          refine hv_sipush (v := 400) dX4_parseProduct_8 (by decide) ?_
          refine hv_icmp_gt (tgt := 76) dX4_parseProduct_11 (by decide) (fun c_11 => absurd c_11 ((nI_nlt (a := 400) (by omega) (by decide)))) (fun c_11 => ?_)
          refine hv_aload_n dX4_parseProduct_14 rfl ?_
          refine hv_geti dX4_parseProduct_15 fl_X4_41 (by first | rfl | assumption) rfl ?_
          refine hv_if_ne (tgt := 76) dX4_parseProduct_18 (by decide) (fun c_18 => absurd (h1) c_18) (fun c_18 => ?_)
          refine hv_aload_n dX4_parseProduct_21 rfl ?_
          refine hv_bipush (v := 31) dX4_parseProduct_22 (by decide) ?_
          refine hv_bipush (v := 32) dX4_parseProduct_24 (by decide) ?_
          refine hv_cv2 (c_isOne) dX4_parseProduct_26 ml_X4_90 mk_X4_isOne (by first | rfl | assumption) rfl rfl rfl rfl rfl ?_
          rintro _ _ _ _ ⟨rfl, rfl, rfl, rfl⟩
          rw [h3]
          refine hv_if_eq (tgt := 76) dX4_parseProduct_29 (by decide) (fun c_29 => ?_) (fun c_29 => ?_)
          · have hop : ¬ (kd f n a = 31 ∨ kd f n a = 32) := fun q => of_decide_eq_false (bI_0 c_29) (by rcases q with q | q; exact Or.inl (by rw [q]; rfl); exact Or.inr (by rw [q]; rfl))
            rw [if_neg hop] at hr
            refine hv_vret dX4_parseProduct_76 rfl ?_
            rw [← hr]; exact ⟨rfl, rfl, rfl, hσ, hk, hp2, hp3, hp4⟩
          · have hop : kd f n a = 31 ∨ kd f n a = 32 := by
              rcases of_decide_eq_true (bI_1 c_29) with q | q
              · exact Or.inl ((nI_eq (b := 31) (by omega) (by decide)).mp q)
              · exact Or.inr ((nI_eq (b := 32) (by omega) (by decide)).mp q)
            rw [if_pos hop] at hr
            refine hv_aload_n dX4_parseProduct_32 rfl ?_
            refine hv_geti dX4_parseProduct_33 fl_X4_29 (by first | rfl | assumption) rfl ?_
            refine hv_bipush (v := 31) dX4_parseProduct_36 (by decide) ?_
            rw [h3]
            refine hv_icmp_ne (tgt := 45) dX4_parseProduct_38 (by decide) (fun c_38 => ?_) (fun c_38 => ?_)
            · rw [if_neg (fun q => c_38 (by rw [q]; rfl))] at ho
              refine hv_iconst (v := 5) dX4_parseProduct_45 (by decide) ?_
              refine hv_str (congrArg (fun z => [Value.int z]) ho) ?_
              refine hv_istore_n dX4_parseProduct_46 rfl rfl ?_
              exact go none (Or.inl rfl) hop hr
            · rw [if_pos ((nI_eq (b := 31) (by omega) (by decide)).mp c_38)] at ho
              refine hv_iconst (v := 4) dX4_parseProduct_41 (by decide) ?_
              refine hv_goto (tgt := 46) dX4_parseProduct_42 (by decide) ?_
              refine hv_str (congrArg (fun z => [Value.int z]) ho) ?_
              refine hv_istore_n dX4_parseProduct_46 rfl rfl ?_
              exact go none (Or.inl rfl) hop hr
        · skip
          refine hv_iload_n dX4_parseProduct_7 rfl ?_
          refine hv_sipush (v := 400) dX4_parseProduct_8 (by decide) ?_
          refine hv_icmp_gt (tgt := 76) dX4_parseProduct_11 (by decide) (fun c_11 => absurd c_11 ((nI_nlt (a := 400) (by omega) (by decide)))) (fun c_11 => ?_)
          refine hv_aload_n dX4_parseProduct_14 rfl ?_
          refine hv_geti dX4_parseProduct_15 fl_X4_41 (by first | rfl | assumption) rfl ?_
          refine hv_if_ne (tgt := 76) dX4_parseProduct_18 (by decide) (fun c_18 => absurd (h1) c_18) (fun c_18 => ?_)
          refine hv_aload_n dX4_parseProduct_21 rfl ?_
          refine hv_bipush (v := 31) dX4_parseProduct_22 (by decide) ?_
          refine hv_bipush (v := 32) dX4_parseProduct_24 (by decide) ?_
          refine hv_cv2 (c_isOne) dX4_parseProduct_26 ml_X4_90 mk_X4_isOne (by first | rfl | assumption) rfl rfl rfl rfl rfl ?_
          rintro _ _ _ _ ⟨rfl, rfl, rfl, rfl⟩
          rw [h3]
          refine hv_if_eq (tgt := 76) dX4_parseProduct_29 (by decide) (fun c_29 => ?_) (fun c_29 => ?_)
          · have hop : ¬ (kd f n a = 31 ∨ kd f n a = 32) := fun q => of_decide_eq_false (bI_0 c_29) (by rcases q with q | q; exact Or.inl (by rw [q]; rfl); exact Or.inr (by rw [q]; rfl))
            rw [if_neg hop] at hr
            refine hv_vret dX4_parseProduct_76 rfl ?_
            rw [← hr]; exact ⟨rfl, rfl, rfl, hσ, hk, hp2, hp3, hp4⟩
          · have hop : kd f n a = 31 ∨ kd f n a = 32 := by
              rcases of_decide_eq_true (bI_1 c_29) with q | q
              · exact Or.inl ((nI_eq (b := 31) (by omega) (by decide)).mp q)
              · exact Or.inr ((nI_eq (b := 32) (by omega) (by decide)).mp q)
            rw [if_pos hop] at hr
            refine hv_aload_n dX4_parseProduct_32 rfl ?_
            refine hv_geti dX4_parseProduct_33 fl_X4_29 (by first | rfl | assumption) rfl ?_
            refine hv_bipush (v := 31) dX4_parseProduct_36 (by decide) ?_
            rw [h3]
            refine hv_icmp_ne (tgt := 45) dX4_parseProduct_38 (by decide) (fun c_38 => ?_) (fun c_38 => ?_)
            · rw [if_neg (fun q => c_38 (by rw [q]; rfl))] at ho
              refine hv_iconst (v := 5) dX4_parseProduct_45 (by decide) ?_
              refine hv_str (congrArg (fun z => [Value.int z]) ho) ?_
              refine hv_istore_n dX4_parseProduct_46 rfl rfl ?_
              exact go none (Or.inl rfl) hop hr
            · rw [if_pos ((nI_eq (b := 31) (by omega) (by decide)).mp c_38)] at ho
              refine hv_iconst (v := 4) dX4_parseProduct_41 (by decide) ?_
              refine hv_goto (tgt := 46) dX4_parseProduct_42 (by decide) ?_
              refine hv_str (congrArg (fun z => [Value.int z]) ho) ?_
              refine hv_istore_n dX4_parseProduct_46 rfl rfl ?_
              exact go none (Or.inl rfl) hop hr
  refine hv_aload_n dX4_parseProduct_0 rfl ?_
  refine hv_iload_n dX4_parseProduct_1 rfl ?_
  refine hv_cv1 (call ht hs hz) dX4_parseProduct_2 ml_X4_94 mk_X4_parseUnit (by first | rfl | assumption) rfl rfl rfl rfl rfl ?_
  rintro _ _ σ1 _ ⟨rfl, rfl, rfl, q1, q2, q3⟩
  refine hv_iconst (v := 0) dX4_parseProduct_5 (by decide) ?_
  refine hv_istore_n dX4_parseProduct_6 rfl rfl ?_
  exact loop 401 0 (bd s (fun a _ => U a)) _ σ1 none (by omega) (Or.inl rfl) q1 q2 q3 (by rw [bd_assoc])
set_option maxRecDepth 100000 in
theorem c_parseSum_3 {f : hF} {n sz : Nat} {s : hPR Unit} (ht : tokC f n σ) (hs : pSt f n s σ) (hz : szOk sz s σ) : hCal G (m_parseSum_3 (hQp xEx none (rr 38 51 (some 58) y) σ τ (fun σ' => k7 σ σ' ∧ pEx f n sz (bd s (fun a _ => sumX (kd f n) (uX (kd f n) (vl f n) 3) a)) σ σ'))) [.ref (hgA G 7), .int (nI 3)] shp (rr 38 51 (some 58) y) σ τ := by
  refine hv_enter pn_X4 rfl ?_
  obtain ⟨U, hU⟩ : ∃ U : Nat → hPR hCd, prodX (kd f n) (uX (kd f n) (vl f n) 3) = U := ⟨_, rfl⟩
  have hUo : ∀ at', at' ≤ 400 → okG (kd f n) at' (fun a c => at' < a ∧ c.length ≤ a - at') (U at') := fun at' h => by
    rw [← hU]
    exact okG_mono _ (prodX_ok (kd f n) (uX_ok (kd f n) (vl f n) 3) at' h) (fun a c _ _ q => ⟨q.1.1, q.1.2.2.1⟩)
  have call : ∀ {s2 : hPR Unit} {σ2 : hS} {sz2 : Nat}, tokC f n σ2 → pSt f n s2 σ2 → szOk sz2 s2 σ2 → hCal G (m_parseProduct_3 (hQp xEx none (rr 38 51 (some 58) y) σ2 τ (fun σ' => k7 σ2 σ' ∧ pEx f n sz2 (bd s2 (fun a _ => U a)) σ2 σ'))) [.ref (hgA G 7), .int (nI 3)] shp (rr 38 51 (some 58) y) σ2 τ := fun h1 h2 h3 => by
    rw [← hU]; exact c_parseProduct_3 h1 h2 h3
  rw [show (fun a (_ : Unit) => sumX (kd f n) (uX (kd f n) (vl f n) 3) a) = (fun a _ => bd (U a) (fun a c => sumL (kd f n) U 401 a c)) from by rw [← hU]; rfl]
  have loop : ∀ k i r res (σ1 : hS) (l3 : Option Value), i + k = 401 → (l3 = none ∨ ∃ z, l3 = some (.int z)) → (∀ c, c ∉ xEx → σ1 c = σ c) → k7 σ σ1 → pEx f n sz r σ σ1 → bd r (fun a c => sumL (kd f n) U k a c) = res → hV G (m_parseSum_3 (hQp xEx none (rr 38 51 (some 58) y) σ τ (fun σ' => k7 σ σ' ∧ pEx f n sz res σ σ'))) 0 0 shp 7 [some (.ref (hgA G 7)), some (.int (nI 3)), some (.int (nI i)), l3] [] (rr 38 51 (some 58) y) σ1 τ := by
    intro k
    induction k with
    | zero =>
      intro i r res σ1 l3 hi hl3 hσ hk hp hr
      obtain rfl : i = 401 := by omega
      have hrr : r = res := by rw [← hr]; rcases r with e | ⟨a, c⟩ <;> rfl
      refine hv_iload_n dX4_parseSum_7 rfl ?_
      refine hv_sipush (v := 400) dX4_parseSum_8 (by decide) ?_
      refine hv_icmp_gt (tgt := 76) dX4_parseSum_11 (by decide) (fun c_11 => ?_) (fun c_11 => absurd ((by decide)) c_11)
      refine hv_vret dX4_parseSum_76 rfl ?_
      rw [← hrr]; exact ⟨rfl, rfl, rfl, hσ, hk, hp⟩
    | succ k ih =>
      intro i r res σ1 l3 hi hl3 hσ hk hp hr
      rcases r with ⟨z, t⟩ | ⟨a, c⟩
      · have hp2 := hp.1
        have h1 := hp2.1
        have hne : ¬ σ1 7 7 = 0 := by rw [h1]; exact nI_ne0 (by have := hp2.2.1; omega) (by have := hp2.2.1; omega)
        refine hv_iload_n dX4_parseSum_7 rfl ?_
        refine hv_sipush (v := 400) dX4_parseSum_8 (by decide) ?_
        refine hv_icmp_gt (tgt := 76) dX4_parseSum_11 (by decide) (fun c_11 => absurd c_11 ((nI_nlt (a := 400) (by omega) (by decide)))) (fun c_11 => ?_)
        refine hv_aload_n dX4_parseSum_14 rfl ?_
        refine hv_geti dX4_parseSum_15 fl_X4_41 (by first | rfl | assumption) rfl ?_
        refine hv_if_ne (tgt := 76) dX4_parseSum_18 (by decide) (fun c_18 => ?_) (fun c_18 => absurd c_18 (hne))
        refine hv_vret dX4_parseSum_76 rfl ?_
        rw [← hr]; exact ⟨rfl, rfl, rfl, hσ, hk, hp⟩
      · obtain ⟨hp2, hp3, hp4⟩ := hp
        have h1 := hp2.1
        have h3 := hp2.2.2.1
        have ha4 := hp2.2.2.2.1
        have hkl := kd_le f n a
        have tk1 : tokC f n σ1 := tokC_of ht hσ rfl
        rw [show bd (Sum.inr (a, c) : hPR hCd) (fun a c => sumL (kd f n) U (k + 1) a c) = _ from sumL_s (kd f n) U k a c] at hr
        obtain ⟨o, ho⟩ : ∃ o : Int32, (if kd f n a = 29 then 2 else 3 : Int32) = o := ⟨_, rfl⟩
        rw [ho] at hr
        have go : ∀ (l3 : Option Value), (l3 = none ∨ ∃ z, l3 = some (.int z)) → (kd f n a = 29 ∨ kd f n a = 30) → bd (pass a) (fun a1 _ => bd (U a1) (fun a' c' => sumL (kd f n) U k a' (c ++ c' ++ [(o, 0)]))) = res → hV G (m_parseSum_3 (hQp xEx none (rr 38 51 (some 58) y) σ τ (fun σ' => k7 σ σ' ∧ pEx f n sz res σ σ'))) 0 0 shp 47 [some (.ref (hgA G 7)), some (.int (nI 3)), some (.int (nI i)), some (.int o)] [] (rr 38 51 (some 58) y) σ1 τ := by
          intro l3 hl3 hop hr
          refine hv_aload_n dX4_parseSum_47 rfl ?_
          refine hv_aload_n dX4_parseSum_48 rfl ?_
          refine hv_geti dX4_parseSum_49 fl_X4_29 (by first | rfl | assumption) rfl ?_
          refine hv_cv1 (c_pass tk1 hp2 (fun b w q => by cases q; omega)) dX4_parseSum_52 ml_X4_63 mk_X4_take (by first | rfl | assumption) rfl rfl rfl rfl rfl ?_
          rintro _ _ σ2 _ ⟨rfl, rfl, rfl, r1, r2, r3⟩
          have r4 : pSt f n (pass a) σ2 := r3
          have hlw2 : pLw sz c σ σ2 := pLw_of hp3 (r1 58 (by decide)) (r1 59 (by decide)) (r1 60 (by decide))
          have hz2 : szOk (sz + c.length) (pass a) σ2 := ⟨hlw2.2.1, by omega, fun b w q => by have := pass_r q; omega⟩
          have tk2 : tokC f n σ2 := tokC_of tk1 r1 rfl
          refine hv_aload_n dX4_parseSum_55 rfl ?_
          refine hv_iload_n dX4_parseSum_56 rfl ?_
          refine hv_cv1 (call tk2 r4 hz2) dX4_parseSum_57 ml_X4_87 mk_X4_parseProduct (by first | rfl | assumption) rfl rfl rfl rfl rfl ?_
          rintro _ _ σ3 _ ⟨rfl, rfl, rfl, t1, t2, t3, t9⟩
          have hso : okG (kd f n) a (fun a' c' => a + 1 < a' ∧ c'.length ≤ a' - (a + 1)) (bd (pass a) (fun a _ => U a)) := okG_bd _ (okG_pass _ ha4 (by omega)) (fun a1 _ _ a4 ea => by subst ea; exact hUo (a + 1) a4)
          rw [← bd_assoc] at hr
          obtain ⟨r5, hr5⟩ : ∃ r5, bd (pass a) (fun a _ => U a) = r5 := ⟨_, rfl⟩
          rw [hr5] at t3 t9 hso hr
          obtain ⟨z, hzz, hz4, hz6⟩ : ∃ z, σ3 58 5 = nI z ∧ z ≤ 410 ∧ ∀ a' c', r5 = .inr (a', c') → z = sz + c.length + c'.length ∧ z + 1 ≤ 10 + a' := by
            rcases r5 with e | ⟨a', c'⟩
            · obtain ⟨z, q1, q2⟩ := t9.2
              exact ⟨z, q2, q1, fun _ _ q => nomatch q⟩
            · have h9 := hso.2.2.2
              have h8 := hso.2.1
              exact ⟨sz + c.length + c'.length, t9.1.2.1, by omega, fun _ _ q => by cases q; exact ⟨rfl, by omega⟩⟩
          refine hv_aload_n dX4_parseSum_60 rfl ?_
          refine hv_getr dX4_parseSum_61 fl_X4_15 (by first | rfl | assumption) rfl (by first | rfl | assumption) ?_
          refine hv_iload_n dX4_parseSum_64 rfl ?_
          refine hv_iconst (v := 0) dX4_parseSum_65 (by decide) ?_
          refine hv_cv2 (c_lput hzz hz4) dX4_parseSum_66 ml_X4_80 mk_X1_put (by first | rfl | assumption) rfl rfl rfl rfl rfl ?_
          rintro _ _ σ4 _ ⟨rfl, rfl, rfl, w1, w2⟩
          refine hv_pop dX4_parseSum_69 rfl ?_
          refine hv_iinc dX4_parseSum_70 rfl (nI_1 i) rfl rfl ?_
          refine hv_goto (tgt := 7) dX4_parseSum_73 (by decide) ?_
          refine ih (i + 1) (bd r5 (fun a' c' => .inr (a', c ++ c' ++ [(o, 0)]))) res σ4 _ (by omega) (Or.inr ⟨_, rfl⟩) (off_tr (off_tr (off_tr hσ r1 (Z := xEx) (by decide) (by decide)) t1 (Z := xEx) (by decide) (by decide)) w1 (by decide) (by decide)) (k7_tr (k7_tr (k7_tr hk r2) t2) (fun j _ _ _ => by rw [w1 7 (by decide)])) ?_ (by rw [bd_assoc]; exact hr)
          rcases r5 with e | ⟨a', c'⟩
          · exact ⟨pSt_of t3 (w1 7 (by decide)), pLg_tr (fun j hj => (t9.1 j hj).trans (hlw2.1 j hj)) (pLg_p hzz hz4 w2)⟩
          · obtain ⟨e1, e2⟩ := hz6 a' c' rfl
            have h8 := hso.2.1
            subst e1
            exact ⟨pSt_of t3 (w1 7 (by decide)), pLw_tr (pLw_tr hlw2 t9.1) (by rw [List.length_append, ← Nat.add_assoc]; exact pLw_p1 (by omega) w2), by rw [List.length_append, List.length_append, List.length_singleton]; omega⟩
        rcases hl3 with rfl | ⟨z, rfl⟩
        · skip
          refine hv_iload_n dX4_parseSum_7 rfl ?_
          refine hv_sipush (v := 400) dX4_parseSum_8 (by decide) ?_
          refine hv_icmp_gt (tgt := 76) dX4_parseSum_11 (by decide) (fun c_11 => absurd c_11 ((nI_nlt (a := 400) (by omega) (by decide)))) (fun c_11 => ?_)
          refine hv_aload_n dX4_parseSum_14 rfl ?_
          refine hv_geti dX4_parseSum_15 fl_X4_41 (by first | rfl | assumption) rfl ?_
          refine hv_if_ne (tgt := 76) dX4_parseSum_18 (by decide) (fun c_18 => absurd (h1) c_18) (fun c_18 => ?_)
          refine hv_aload_n dX4_parseSum_21 rfl ?_
          refine hv_bipush (v := 29) dX4_parseSum_22 (by decide) ?_
          refine hv_bipush (v := 30) dX4_parseSum_24 (by decide) ?_
          refine hv_cv2 (c_isOne) dX4_parseSum_26 ml_X4_90 mk_X4_isOne (by first | rfl | assumption) rfl rfl rfl rfl rfl ?_
          rintro _ _ _ _ ⟨rfl, rfl, rfl, rfl⟩
          rw [h3]
          refine hv_if_eq (tgt := 76) dX4_parseSum_29 (by decide) (fun c_29 => ?_) (fun c_29 => ?_)
          · have hop : ¬ (kd f n a = 29 ∨ kd f n a = 30) := fun q => of_decide_eq_false (bI_0 c_29) (by rcases q with q | q; exact Or.inl (by rw [q]; rfl); exact Or.inr (by rw [q]; rfl))
            rw [if_neg hop] at hr
            refine hv_vret dX4_parseSum_76 rfl ?_
            rw [← hr]; exact ⟨rfl, rfl, rfl, hσ, hk, hp2, hp3, hp4⟩
          · have hop : kd f n a = 29 ∨ kd f n a = 30 := by
              rcases of_decide_eq_true (bI_1 c_29) with q | q
              · exact Or.inl ((nI_eq (b := 29) (by omega) (by decide)).mp q)
              · exact Or.inr ((nI_eq (b := 30) (by omega) (by decide)).mp q)
            rw [if_pos hop] at hr
            refine hv_aload_n dX4_parseSum_32 rfl ?_
            refine hv_geti dX4_parseSum_33 fl_X4_29 (by first | rfl | assumption) rfl ?_
            refine hv_bipush (v := 29) dX4_parseSum_36 (by decide) ?_
            rw [h3]
            refine hv_icmp_ne (tgt := 45) dX4_parseSum_38 (by decide) (fun c_38 => ?_) (fun c_38 => ?_)
            · rw [if_neg (fun q => c_38 (by rw [q]; rfl))] at ho
              refine hv_iconst (v := 3) dX4_parseSum_45 (by decide) ?_
              refine hv_str (congrArg (fun z => [Value.int z]) ho) ?_
              refine hv_istore_n dX4_parseSum_46 rfl rfl ?_
              exact go none (Or.inl rfl) hop hr
            · rw [if_pos ((nI_eq (b := 29) (by omega) (by decide)).mp c_38)] at ho
              refine hv_iconst (v := 2) dX4_parseSum_41 (by decide) ?_
              refine hv_goto (tgt := 46) dX4_parseSum_42 (by decide) ?_
              refine hv_str (congrArg (fun z => [Value.int z]) ho) ?_
              refine hv_istore_n dX4_parseSum_46 rfl rfl ?_
              exact go none (Or.inl rfl) hop hr
        · skip
          refine hv_iload_n dX4_parseSum_7 rfl ?_
          refine hv_sipush (v := 400) dX4_parseSum_8 (by decide) ?_
          refine hv_icmp_gt (tgt := 76) dX4_parseSum_11 (by decide) (fun c_11 => absurd c_11 ((nI_nlt (a := 400) (by omega) (by decide)))) (fun c_11 => ?_)
          refine hv_aload_n dX4_parseSum_14 rfl ?_
          refine hv_geti dX4_parseSum_15 fl_X4_41 (by first | rfl | assumption) rfl ?_
          refine hv_if_ne (tgt := 76) dX4_parseSum_18 (by decide) (fun c_18 => absurd (h1) c_18) (fun c_18 => ?_)
          refine hv_aload_n dX4_parseSum_21 rfl ?_
          refine hv_bipush (v := 29) dX4_parseSum_22 (by decide) ?_
          refine hv_bipush (v := 30) dX4_parseSum_24 (by decide) ?_
          refine hv_cv2 (c_isOne) dX4_parseSum_26 ml_X4_90 mk_X4_isOne (by first | rfl | assumption) rfl rfl rfl rfl rfl ?_
          rintro _ _ _ _ ⟨rfl, rfl, rfl, rfl⟩
          rw [h3]
          refine hv_if_eq (tgt := 76) dX4_parseSum_29 (by decide) (fun c_29 => ?_) (fun c_29 => ?_)
          · have hop : ¬ (kd f n a = 29 ∨ kd f n a = 30) := fun q => of_decide_eq_false (bI_0 c_29) (by rcases q with q | q; exact Or.inl (by rw [q]; rfl); exact Or.inr (by rw [q]; rfl))
            rw [if_neg hop] at hr
            refine hv_vret dX4_parseSum_76 rfl ?_
            rw [← hr]; exact ⟨rfl, rfl, rfl, hσ, hk, hp2, hp3, hp4⟩
          · have hop : kd f n a = 29 ∨ kd f n a = 30 := by
              rcases of_decide_eq_true (bI_1 c_29) with q | q
              · exact Or.inl ((nI_eq (b := 29) (by omega) (by decide)).mp q)
              · exact Or.inr ((nI_eq (b := 30) (by omega) (by decide)).mp q)
            rw [if_pos hop] at hr
            refine hv_aload_n dX4_parseSum_32 rfl ?_
            refine hv_geti dX4_parseSum_33 fl_X4_29 (by first | rfl | assumption) rfl ?_
            refine hv_bipush (v := 29) dX4_parseSum_36 (by decide) ?_
            rw [h3]
            refine hv_icmp_ne (tgt := 45) dX4_parseSum_38 (by decide) (fun c_38 => ?_) (fun c_38 => ?_)
            · rw [if_neg (fun q => c_38 (by rw [q]; rfl))] at ho
              refine hv_iconst (v := 3) dX4_parseSum_45 (by decide) ?_
              refine hv_str (congrArg (fun z => [Value.int z]) ho) ?_
              refine hv_istore_n dX4_parseSum_46 rfl rfl ?_
              exact go none (Or.inl rfl) hop hr
            · rw [if_pos ((nI_eq (b := 29) (by omega) (by decide)).mp c_38)] at ho
              refine hv_iconst (v := 2) dX4_parseSum_41 (by decide) ?_
              refine hv_goto (tgt := 46) dX4_parseSum_42 (by decide) ?_
              refine hv_str (congrArg (fun z => [Value.int z]) ho) ?_
              refine hv_istore_n dX4_parseSum_46 rfl rfl ?_
              exact go none (Or.inl rfl) hop hr
  refine hv_aload_n dX4_parseSum_0 rfl ?_
  refine hv_iload_n dX4_parseSum_1 rfl ?_
  refine hv_cv1 (call ht hs hz) dX4_parseSum_2 ml_X4_87 mk_X4_parseProduct (by first | rfl | assumption) rfl rfl rfl rfl rfl ?_
  rintro _ _ σ1 _ ⟨rfl, rfl, rfl, q1, q2, q3⟩
  refine hv_iconst (v := 0) dX4_parseSum_5 (by decide) ?_
  refine hv_istore_n dX4_parseSum_6 rfl rfl ?_
  exact loop 401 0 (bd s (fun a _ => U a)) _ σ1 none (by omega) (Or.inl rfl) q1 q2 q3 (by rw [bd_assoc])
set_option maxRecDepth 100000 in
theorem c_parseUnit_2 {f : hF} {n sz : Nat} {s : hPR Unit} (ht : tokC f n σ) (hs : pSt f n s σ) (hz : szOk sz s σ) : hCal G (m_parseUnit_2 (hQp xEx none (rr 38 51 (some 58) y) σ τ (fun σ' => k7 σ σ' ∧ pEx f n sz (bd s (fun a _ => uX (kd f n) (vl f n) 4 a)) σ σ'))) [.ref (hgA G 7), .int (nI 2)] shp (rr 38 51 (some 58) y) σ τ := by
  refine hv_enter pn_X4 rfl ?_
  obtain ⟨z1, z2, z3⟩ := hz
  rcases s with ⟨z, t⟩ | ⟨a, u⟩
  · have h1 := hs.1
    have hne : ¬ σ 7 7 = 0 := by rw [h1]; exact nI_ne0 (by have := hs.2.1; omega) (by have := hs.2.1; omega)
    refine hv_aload_n dX4_parseUnit_0 rfl ?_
    refine hv_geti dX4_parseUnit_1 fl_X4_41 (by first | rfl | assumption) rfl ?_
    refine hv_if_eq (tgt := 8) dX4_parseUnit_4 (by decide) (fun c_4 => absurd c_4 (hne)) (fun c_4 => ?_)
    refine hv_vret dX4_parseUnit_7 rfl ?_
    exact ⟨rfl, rfl, rfl, fun _ _ => rfl, k7_rf, hs, fun _ _ => rfl, sz, z2, z1⟩
  · have hsz := z3 a u rfl
    have h1 := hs.1
    have h2 := hs.2.1
    have h3 := hs.2.2.1
    have h4 := hs.2.2.2
    have ha := h4.1
    have hkl := kd_le f n a
    have hu := uX_s (kd f n) (vl f n) 3 a
    rw [show bd (Sum.inr (a, u) : hPR Unit) (fun a _ => uX (kd f n) (vl f n) 4 a) = _ from hu]
    have leaf : ∀ (k o : Int32) (σ1 : hS), (∀ k, k ∉ [58, 59, 60] → σ1 k = σ k) → pPut sz k o σ σ1 → tokC f n σ1 ∧ pSt f n (.inr (a, u)) σ1 ∧ ∀ σ2 : hS, (∀ k, k ∉ [7] → σ2 k = σ1 k) → k7 σ1 σ2 → pSt f n (bd (Sum.inr (a, u) : hPR Unit) (fun a _ => pass a)) σ2 → (∀ c, c ∉ xEx → σ2 c = σ c) ∧ k7 σ σ2 ∧ pEx f n sz (bd (pass a) (fun a _ => .inr (a, [(k, o)]))) σ σ2 := by
      intro k o σ1 q1 q2
      refine ⟨tokC_of ht q1 rfl, pSt_of hs (q1 7 (by decide)), fun σ2 r1 r2 r3 => ⟨off_tr q1 r1 (by decide) (by decide), k7_tr (fun j _ _ _ => by rw [q1 7 (by decide)]) r2, ?_⟩⟩
      have r4 : pSt f n (pass a) σ2 := r3
      unfold pass at r4 ⊢
      by_cases c : a < 400
      · rw [if_pos c] at r4 ⊢
        exact ⟨r4, pLw_of (pLw_p1 (by omega) q2) (r1 58 (by decide)) (r1 59 (by decide)) (r1 60 (by decide)), by simp; omega⟩
      · rw [if_neg c] at r4 ⊢
        exact ⟨r4, pLg_of (pLg_p z1 z2 q2) (r1 58 (by decide))⟩
    have flt : ∀ v : Nat, (v = 1 ∨ v = 2) → pEx f n sz (.inl (v, a)) σ (va_up σ 7 (upd (σ 7) 7 (nI v))) := by
      intro v hv
      exact ⟨⟨by rw [hup_eq, pk_us], hv, by rw [hup_eq, pk_un (by decide)]; exact h2, h4⟩, fun j hj => by rw [hva_ne (by decide)], sz, z2, by rw [hva_ne (by decide)]; exact z1⟩
    refine hv_aload_n dX4_parseUnit_0 rfl ?_
    refine hv_geti dX4_parseUnit_1 fl_X4_41 (by first | rfl | assumption) rfl ?_
    refine hv_if_eq (tgt := 8) dX4_parseUnit_4 (by decide) (fun c_4 => ?_) (fun c_4 => absurd (h1) c_4)
    refine hv_aload_n dX4_parseUnit_8 rfl ?_
    refine hv_geti dX4_parseUnit_9 fl_X4_29 (by first | rfl | assumption) rfl ?_
    refine hv_bipush (v := 24) dX4_parseUnit_12 (by decide) ?_
    rw [h3]
    refine hv_icmp_ne (tgt := 48) dX4_parseUnit_14 (by decide) (fun c_14 => ?_) (fun c_14 => ?_)
    · have hk : ¬ kd f n a = 24 := fun q => c_14 (by rw [q]; rfl)
      rw [if_neg hk]
      refine hv_aload_n dX4_parseUnit_48 rfl ?_
      refine hv_geti dX4_parseUnit_49 fl_X4_29 (by first | rfl | assumption) rfl ?_
      refine hv_bipush (v := 14) dX4_parseUnit_52 (by decide) ?_
      rw [h3]
      refine hv_icmp_lt (tgt := 93) dX4_parseUnit_54 (by decide) (fun c_54 => ?_) (fun c_54 => ?_)
      · have hv : ¬ (14 ≤ kd f n a ∧ kd f n a ≤ 22) := fun q => by have := (nI_ltI (b := 14) (by omega) (by decide)).mp c_54; omega
        rw [if_neg hv]
        refine hv_aload_n dX4_parseUnit_93 rfl ?_
        refine hv_geti dX4_parseUnit_94 fl_X4_29 (by first | rfl | assumption) rfl ?_
        refine hv_bipush (v := 34) dX4_parseUnit_97 (by decide) ?_
        rw [h3]
        refine hv_icmp_eq (tgt := 110) dX4_parseUnit_99 (by decide) (fun c_99 => ?_) (fun c_99 => ?_)
        · have ho : kd f n a = 34 := (nI_eq (b := 34) (by omega) (by decide)).mp c_99
          rw [if_pos ho]
          refine hv_iload_n dX4_parseUnit_110 rfl ?_
          refine hv_bipush (v := 6) dX4_parseUnit_111 (by decide) ?_
          refine hv_icmp_lt (tgt := 124) dX4_parseUnit_113 (by decide) (fun c_113 => ?_) (fun c_113 => absurd ((by decide)) c_113)
          refine hv_aload_n dX4_parseUnit_124 rfl ?_
          refine hv_aload_n dX4_parseUnit_125 rfl ?_
          refine hv_geti dX4_parseUnit_126 fl_X4_29 (by first | rfl | assumption) rfl ?_
          refine hv_cv1 (c_pass ht hs (fun b w q => by cases q; rw [ho]; decide)) dX4_parseUnit_129 ml_X4_63 mk_X4_take (by first | rfl | assumption) rfl rfl rfl rfl rfl ?_
          rintro _ _ σ2 _ ⟨rfl, rfl, rfl, r1, r2, r3⟩
          have r4 : pSt f n (pass a) σ2 := r3
          have hz2 : szOk sz (pass a) σ2 := ⟨by rw [r1 58 (by decide)]; exact z1, z2, fun b w q => by have := pass_r q; omega⟩
          refine hv_aload_n dX4_parseUnit_132 rfl ?_
          refine hv_iload_n dX4_parseUnit_133 rfl ?_
          refine hv_iconst (v := 1) dX4_parseUnit_134 (by decide) ?_
          refine hv_iadd dX4_parseUnit_135 ?_
          refine hv_cv1 (c_parseSum_3 (tokC_of ht r1 rfl) r4 hz2) dX4_parseUnit_136 ml_X4_77 mk_X4_parseSum (by first | rfl | assumption) rfl rfl rfl rfl rfl ?_
          rintro _ _ σ3 _ ⟨rfl, rfl, rfl, t1, t2, t3, t9⟩
          obtain ⟨r5, hr5⟩ : ∃ r5, bd (pass a) (fun a _ => sumX (kd f n) (uX (kd f n) (vl f n) 3) a) = r5 := ⟨_, rfl⟩
          rw [hr5] at t3 t9
          rw [← bd_assoc, hr5]
          have t4 : tokC f n σ3 := tokC_of (tokC_of ht r1 rfl) t1 rfl
          refine hv_aload_n dX4_parseUnit_139 rfl ?_
          refine hv_bipush (v := 35) dX4_parseUnit_140 (by decide) ?_
          refine hv_cv1 (c_take (k := 35) t4 t3 (by decide) (by decide)) dX4_parseUnit_142 ml_X4_63 mk_X4_take (by first | rfl | assumption) rfl rfl rfl rfl rfl ?_
          rintro _ _ σ4 _ ⟨rfl, rfl, rfl, w1, w2, w3⟩
          refine hv_vret dX4_parseUnit_145 rfl ?_
          first
            | exact ⟨rfl, rfl, rfl, m1, m2, m3⟩
            | exact ⟨rfl, rfl, rfl, off_up (fun _ _ => rfl) (by decide), fun j j1 j2 j3 => by rw [hup_eq, pk_un j3], flt 1 (Or.inl rfl)⟩
            | (refine ⟨rfl, rfl, rfl, off_tr (off_tr r1 t1 (Z := xEx) (by decide) (by decide)) w1 (by decide) (by decide), k7_tr (k7_tr r2 t2) w2, ?_⟩
               have e2 : ∀ j, j ≠ 5 → σ2 58 j = σ 58 j := fun j _ => by rw [r1 58 (by decide)]
               rcases r5 with e | ⟨a', c'⟩
               · exact ⟨w3, pLg_of (pLg_tr e2 t9) (w1 58 (by decide))⟩
               · obtain ⟨u1, u2⟩ := t9
                 have hw : pSt f n (tk (kd f n) 35 a') σ4 := w3
                 have hlw : pLw sz c' σ σ4 := pLw_of (pLw_tr (c := []) (pLw_0 z1 (r1 58 (by decide)) (r1 59 (by decide)) (r1 60 (by decide))) u1) (w1 58 (by decide)) (w1 59 (by decide)) (w1 60 (by decide))
                 show pEx f n sz (bd (tk (kd f n) 35 a') (fun a'' _ => .inr (a'', c'))) σ σ4
                 have ha' : a' ≤ 400 := t3.2.2.2.1
                 rcases hr6 : tk (kd f n) 35 a' with e | ⟨a'', u'⟩
                 · rw [hr6] at hw
                   exact ⟨hw, pLw_lg hlw (by omega)⟩
                 · rw [hr6] at hw
                   have ha2 := (tk_r hr6).2.2
                   exact ⟨by cases u'; exact hw, hlw, by omega⟩)
        · have ho : ¬ kd f n a = 34 := fun q => c_99 (by rw [q]; rfl)
          rw [if_neg ho]
          refine hv_aload_n dX4_parseUnit_102 rfl ?_
          refine hv_iconst (v := 1) dX4_parseUnit_103 (by decide) ?_
          refine hv_cv1 (c_pfail) dX4_parseUnit_104 ml_X4_60 mk_X4_fail (by first | rfl | assumption) rfl rfl rfl rfl rfl ?_
          rintro _ _ _ _ ⟨rfl, rfl, rfl, rfl⟩
          rw [if_pos h1]
          refine hv_goto (tgt := 145) dX4_parseUnit_107 (by decide) ?_
          refine hv_vret dX4_parseUnit_145 rfl ?_
          first
            | exact ⟨rfl, rfl, rfl, m1, m2, m3⟩
            | exact ⟨rfl, rfl, rfl, off_up (fun _ _ => rfl) (by decide), fun j j1 j2 j3 => by rw [hup_eq, pk_un j3], flt 1 (Or.inl rfl)⟩
            | (refine ⟨rfl, rfl, rfl, off_tr (off_tr r1 t1 (Z := xEx) (by decide) (by decide)) w1 (by decide) (by decide), k7_tr (k7_tr r2 t2) w2, ?_⟩
               have e2 : ∀ j, j ≠ 5 → σ2 58 j = σ 58 j := fun j _ => by rw [r1 58 (by decide)]
               rcases r5 with e | ⟨a', c'⟩
               · exact ⟨w3, pLg_of (pLg_tr e2 t9) (w1 58 (by decide))⟩
               · obtain ⟨u1, u2⟩ := t9
                 have hw : pSt f n (tk (kd f n) 35 a') σ4 := w3
                 have hlw : pLw sz c' σ σ4 := pLw_of (pLw_tr (c := []) (pLw_0 z1 (r1 58 (by decide)) (r1 59 (by decide)) (r1 60 (by decide))) u1) (w1 58 (by decide)) (w1 59 (by decide)) (w1 60 (by decide))
                 show pEx f n sz (bd (tk (kd f n) 35 a') (fun a'' _ => .inr (a'', c'))) σ σ4
                 have ha' : a' ≤ 400 := t3.2.2.2.1
                 rcases hr6 : tk (kd f n) 35 a' with e | ⟨a'', u'⟩
                 · rw [hr6] at hw
                   exact ⟨hw, pLw_lg hlw (by omega)⟩
                 · rw [hr6] at hw
                   have ha2 := (tk_r hr6).2.2
                   exact ⟨by cases u'; exact hw, hlw, by omega⟩)
      · refine hv_aload_n dX4_parseUnit_57 rfl ?_
        refine hv_geti dX4_parseUnit_58 fl_X4_29 (by first | rfl | assumption) rfl ?_
        refine hv_bipush (v := 22) dX4_parseUnit_61 (by decide) ?_
        rw [h3]
        refine hv_icmp_gt (tgt := 93) dX4_parseUnit_63 (by decide) (fun c_63 => ?_) (fun c_63 => ?_)
        · have hv : ¬ (14 ≤ kd f n a ∧ kd f n a ≤ 22) := fun q => by have := (nI_ltI (a := 22) (by decide) (by omega)).mp c_63; omega
          rw [if_neg hv]
          refine hv_aload_n dX4_parseUnit_93 rfl ?_
          refine hv_geti dX4_parseUnit_94 fl_X4_29 (by first | rfl | assumption) rfl ?_
          refine hv_bipush (v := 34) dX4_parseUnit_97 (by decide) ?_
          rw [h3]
          refine hv_icmp_eq (tgt := 110) dX4_parseUnit_99 (by decide) (fun c_99 => ?_) (fun c_99 => ?_)
          · have ho : kd f n a = 34 := (nI_eq (b := 34) (by omega) (by decide)).mp c_99
            rw [if_pos ho]
            refine hv_iload_n dX4_parseUnit_110 rfl ?_
            refine hv_bipush (v := 6) dX4_parseUnit_111 (by decide) ?_
            refine hv_icmp_lt (tgt := 124) dX4_parseUnit_113 (by decide) (fun c_113 => ?_) (fun c_113 => absurd ((by decide)) c_113)
            refine hv_aload_n dX4_parseUnit_124 rfl ?_
            refine hv_aload_n dX4_parseUnit_125 rfl ?_
            refine hv_geti dX4_parseUnit_126 fl_X4_29 (by first | rfl | assumption) rfl ?_
            refine hv_cv1 (c_pass ht hs (fun b w q => by cases q; rw [ho]; decide)) dX4_parseUnit_129 ml_X4_63 mk_X4_take (by first | rfl | assumption) rfl rfl rfl rfl rfl ?_
            rintro _ _ σ2 _ ⟨rfl, rfl, rfl, r1, r2, r3⟩
            have r4 : pSt f n (pass a) σ2 := r3
            have hz2 : szOk sz (pass a) σ2 := ⟨by rw [r1 58 (by decide)]; exact z1, z2, fun b w q => by have := pass_r q; omega⟩
            refine hv_aload_n dX4_parseUnit_132 rfl ?_
            refine hv_iload_n dX4_parseUnit_133 rfl ?_
            refine hv_iconst (v := 1) dX4_parseUnit_134 (by decide) ?_
            refine hv_iadd dX4_parseUnit_135 ?_
            refine hv_cv1 (c_parseSum_3 (tokC_of ht r1 rfl) r4 hz2) dX4_parseUnit_136 ml_X4_77 mk_X4_parseSum (by first | rfl | assumption) rfl rfl rfl rfl rfl ?_
            rintro _ _ σ3 _ ⟨rfl, rfl, rfl, t1, t2, t3, t9⟩
            obtain ⟨r5, hr5⟩ : ∃ r5, bd (pass a) (fun a _ => sumX (kd f n) (uX (kd f n) (vl f n) 3) a) = r5 := ⟨_, rfl⟩
            rw [hr5] at t3 t9
            rw [← bd_assoc, hr5]
            have t4 : tokC f n σ3 := tokC_of (tokC_of ht r1 rfl) t1 rfl
            refine hv_aload_n dX4_parseUnit_139 rfl ?_
            refine hv_bipush (v := 35) dX4_parseUnit_140 (by decide) ?_
            refine hv_cv1 (c_take (k := 35) t4 t3 (by decide) (by decide)) dX4_parseUnit_142 ml_X4_63 mk_X4_take (by first | rfl | assumption) rfl rfl rfl rfl rfl ?_
            rintro _ _ σ4 _ ⟨rfl, rfl, rfl, w1, w2, w3⟩
            refine hv_vret dX4_parseUnit_145 rfl ?_
            first
              | exact ⟨rfl, rfl, rfl, m1, m2, m3⟩
              | exact ⟨rfl, rfl, rfl, off_up (fun _ _ => rfl) (by decide), fun j j1 j2 j3 => by rw [hup_eq, pk_un j3], flt 1 (Or.inl rfl)⟩
              | (refine ⟨rfl, rfl, rfl, off_tr (off_tr r1 t1 (Z := xEx) (by decide) (by decide)) w1 (by decide) (by decide), k7_tr (k7_tr r2 t2) w2, ?_⟩
                 have e2 : ∀ j, j ≠ 5 → σ2 58 j = σ 58 j := fun j _ => by rw [r1 58 (by decide)]
                 rcases r5 with e | ⟨a', c'⟩
                 · exact ⟨w3, pLg_of (pLg_tr e2 t9) (w1 58 (by decide))⟩
                 · obtain ⟨u1, u2⟩ := t9
                   have hw : pSt f n (tk (kd f n) 35 a') σ4 := w3
                   have hlw : pLw sz c' σ σ4 := pLw_of (pLw_tr (c := []) (pLw_0 z1 (r1 58 (by decide)) (r1 59 (by decide)) (r1 60 (by decide))) u1) (w1 58 (by decide)) (w1 59 (by decide)) (w1 60 (by decide))
                   show pEx f n sz (bd (tk (kd f n) 35 a') (fun a'' _ => .inr (a'', c'))) σ σ4
                   have ha' : a' ≤ 400 := t3.2.2.2.1
                   rcases hr6 : tk (kd f n) 35 a' with e | ⟨a'', u'⟩
                   · rw [hr6] at hw
                     exact ⟨hw, pLw_lg hlw (by omega)⟩
                   · rw [hr6] at hw
                     have ha2 := (tk_r hr6).2.2
                     exact ⟨by cases u'; exact hw, hlw, by omega⟩)
          · have ho : ¬ kd f n a = 34 := fun q => c_99 (by rw [q]; rfl)
            rw [if_neg ho]
            refine hv_aload_n dX4_parseUnit_102 rfl ?_
            refine hv_iconst (v := 1) dX4_parseUnit_103 (by decide) ?_
            refine hv_cv1 (c_pfail) dX4_parseUnit_104 ml_X4_60 mk_X4_fail (by first | rfl | assumption) rfl rfl rfl rfl rfl ?_
            rintro _ _ _ _ ⟨rfl, rfl, rfl, rfl⟩
            rw [if_pos h1]
            refine hv_goto (tgt := 145) dX4_parseUnit_107 (by decide) ?_
            refine hv_vret dX4_parseUnit_145 rfl ?_
            first
              | exact ⟨rfl, rfl, rfl, m1, m2, m3⟩
              | exact ⟨rfl, rfl, rfl, off_up (fun _ _ => rfl) (by decide), fun j j1 j2 j3 => by rw [hup_eq, pk_un j3], flt 1 (Or.inl rfl)⟩
              | (refine ⟨rfl, rfl, rfl, off_tr (off_tr r1 t1 (Z := xEx) (by decide) (by decide)) w1 (by decide) (by decide), k7_tr (k7_tr r2 t2) w2, ?_⟩
                 have e2 : ∀ j, j ≠ 5 → σ2 58 j = σ 58 j := fun j _ => by rw [r1 58 (by decide)]
                 rcases r5 with e | ⟨a', c'⟩
                 · exact ⟨w3, pLg_of (pLg_tr e2 t9) (w1 58 (by decide))⟩
                 · obtain ⟨u1, u2⟩ := t9
                   have hw : pSt f n (tk (kd f n) 35 a') σ4 := w3
                   have hlw : pLw sz c' σ σ4 := pLw_of (pLw_tr (c := []) (pLw_0 z1 (r1 58 (by decide)) (r1 59 (by decide)) (r1 60 (by decide))) u1) (w1 58 (by decide)) (w1 59 (by decide)) (w1 60 (by decide))
                   show pEx f n sz (bd (tk (kd f n) 35 a') (fun a'' _ => .inr (a'', c'))) σ σ4
                   have ha' : a' ≤ 400 := t3.2.2.2.1
                   rcases hr6 : tk (kd f n) 35 a' with e | ⟨a'', u'⟩
                   · rw [hr6] at hw
                     exact ⟨hw, pLw_lg hlw (by omega)⟩
                   · rw [hr6] at hw
                     have ha2 := (tk_r hr6).2.2
                     exact ⟨by cases u'; exact hw, hlw, by omega⟩)
        · have hv : 14 ≤ kd f n a ∧ kd f n a ≤ 22 := ⟨(nI_leI (a := 14) (by decide) (by omega)).mp (Int32.not_lt.mp c_54), (nI_leI (b := 22) (by omega) (by decide)).mp (Int32.not_lt.mp c_63)⟩
          rw [if_pos hv]
          refine hv_aload_n dX4_parseUnit_66 rfl ?_
          refine hv_getr dX4_parseUnit_67 fl_X4_15 (by first | rfl | assumption) rfl (by first | rfl | assumption) ?_
          refine hv_iconst (v := 1) dX4_parseUnit_70 (by decide) ?_
          refine hv_aload_n dX4_parseUnit_71 rfl ?_
          refine hv_geti dX4_parseUnit_72 fl_X4_29 (by first | rfl | assumption) rfl ?_
          refine hv_bipush (v := 14) dX4_parseUnit_75 (by decide) ?_
          rw [h3]
          refine hv_isub dX4_parseUnit_77 ?_
          rw [show nI (kd f n a) - 14 = nI (kd f n a - 14) from pk_sub (b := 14) hv.1]
          refine hv_cv2 (c_lput z1 z2) dX4_parseUnit_78 ml_X4_80 mk_X1_put (by first | rfl | assumption) rfl rfl rfl rfl rfl ?_
          rintro _ _ σ1 _ ⟨rfl, rfl, rfl, q1, q2⟩
          obtain ⟨l1, l2, l3⟩ := leaf _ _ σ1 q1 q2
          refine hv_pop dX4_parseUnit_81 rfl ?_
          refine hv_aload_n dX4_parseUnit_82 rfl ?_
          refine hv_aload_n dX4_parseUnit_83 rfl ?_
          refine hv_geti dX4_parseUnit_84 fl_X4_29 (by first | rfl | assumption) rfl ?_
          refine hv_cv1 (c_pass l1 l2 (fun b w q => by cases q; omega)) dX4_parseUnit_87 ml_X4_63 mk_X4_take (by first | rfl | assumption) rfl rfl rfl rfl rfl ?_
          rintro _ _ σ2 _ ⟨rfl, rfl, rfl, r1, r2, r3⟩
          obtain ⟨m1, m2, m3⟩ := l3 σ2 r1 r2 r3
          refine hv_goto (tgt := 145) dX4_parseUnit_90 (by decide) ?_
          refine hv_vret dX4_parseUnit_145 rfl ?_
          first
            | exact ⟨rfl, rfl, rfl, m1, m2, m3⟩
            | exact ⟨rfl, rfl, rfl, off_up (fun _ _ => rfl) (by decide), fun j j1 j2 j3 => by rw [hup_eq, pk_un j3], flt 1 (Or.inl rfl)⟩
            | (refine ⟨rfl, rfl, rfl, off_tr (off_tr r1 t1 (Z := xEx) (by decide) (by decide)) w1 (by decide) (by decide), k7_tr (k7_tr r2 t2) w2, ?_⟩
               have e2 : ∀ j, j ≠ 5 → σ2 58 j = σ 58 j := fun j _ => by rw [r1 58 (by decide)]
               rcases r5 with e | ⟨a', c'⟩
               · exact ⟨w3, pLg_of (pLg_tr e2 t9) (w1 58 (by decide))⟩
               · obtain ⟨u1, u2⟩ := t9
                 have hw : pSt f n (tk (kd f n) 35 a') σ4 := w3
                 have hlw : pLw sz c' σ σ4 := pLw_of (pLw_tr (c := []) (pLw_0 z1 (r1 58 (by decide)) (r1 59 (by decide)) (r1 60 (by decide))) u1) (w1 58 (by decide)) (w1 59 (by decide)) (w1 60 (by decide))
                 show pEx f n sz (bd (tk (kd f n) 35 a') (fun a'' _ => .inr (a'', c'))) σ σ4
                 have ha' : a' ≤ 400 := t3.2.2.2.1
                 rcases hr6 : tk (kd f n) 35 a' with e | ⟨a'', u'⟩
                 · rw [hr6] at hw
                   exact ⟨hw, pLw_lg hlw (by omega)⟩
                 · rw [hr6] at hw
                   have ha2 := (tk_r hr6).2.2
                   exact ⟨by cases u'; exact hw, hlw, by omega⟩)
    · have hk : kd f n a = 24 := (nI_eq (b := 24) (by omega) (by decide)).mp c_14
      rw [if_pos hk]
      refine hv_aload_n dX4_parseUnit_17 rfl ?_
      refine hv_getr dX4_parseUnit_18 fl_X4_15 (by first | rfl | assumption) rfl (by first | rfl | assumption) ?_
      refine hv_iconst (v := 0) dX4_parseUnit_21 (by decide) ?_
      refine hv_aload_n dX4_parseUnit_22 rfl ?_
      refine hv_getr dX4_parseUnit_23 fl_X4_9 (by first | rfl | assumption) rfl (by first | rfl | assumption) ?_
      refine hv_aload_n dX4_parseUnit_26 rfl ?_
      refine hv_geti dX4_parseUnit_27 fl_X4_19 (by first | rfl | assumption) rfl ?_
      rw [h2]
      refine hv_cv1 (c_tvalue ht h4) dX4_parseUnit_30 ml_X4_97 mk_X9_value (by first | rfl | assumption) rfl rfl rfl rfl rfl ?_
      rintro _ _ _ _ ⟨rfl, rfl, rfl, rfl⟩
      refine hv_cv2 (c_lput z1 z2) dX4_parseUnit_33 ml_X4_80 mk_X1_put (by first | rfl | assumption) rfl rfl rfl rfl rfl ?_
      rintro _ _ σ1 _ ⟨rfl, rfl, rfl, q1, q2⟩
      obtain ⟨l1, l2, l3⟩ := leaf _ _ σ1 q1 q2
      refine hv_pop dX4_parseUnit_36 rfl ?_
      refine hv_aload_n dX4_parseUnit_37 rfl ?_
      refine hv_aload_n dX4_parseUnit_38 rfl ?_
      refine hv_geti dX4_parseUnit_39 fl_X4_29 (by first | rfl | assumption) rfl ?_
      refine hv_cv1 (c_pass l1 l2 (fun b w q => by cases q; rw [hk]; decide)) dX4_parseUnit_42 ml_X4_63 mk_X4_take (by first | rfl | assumption) rfl rfl rfl rfl rfl ?_
      rintro _ _ σ2 _ ⟨rfl, rfl, rfl, r1, r2, r3⟩
      obtain ⟨m1, m2, m3⟩ := l3 σ2 r1 r2 r3
      refine hv_goto (tgt := 145) dX4_parseUnit_45 (by decide) ?_
      refine hv_vret dX4_parseUnit_145 rfl ?_
      first
        | exact ⟨rfl, rfl, rfl, m1, m2, m3⟩
        | exact ⟨rfl, rfl, rfl, off_up (fun _ _ => rfl) (by decide), fun j j1 j2 j3 => by rw [hup_eq, pk_un j3], flt 1 (Or.inl rfl)⟩
        | (refine ⟨rfl, rfl, rfl, off_tr (off_tr r1 t1 (Z := xEx) (by decide) (by decide)) w1 (by decide) (by decide), k7_tr (k7_tr r2 t2) w2, ?_⟩
           have e2 : ∀ j, j ≠ 5 → σ2 58 j = σ 58 j := fun j _ => by rw [r1 58 (by decide)]
           rcases r5 with e | ⟨a', c'⟩
           · exact ⟨w3, pLg_of (pLg_tr e2 t9) (w1 58 (by decide))⟩
           · obtain ⟨u1, u2⟩ := t9
             have hw : pSt f n (tk (kd f n) 35 a') σ4 := w3
             have hlw : pLw sz c' σ σ4 := pLw_of (pLw_tr (c := []) (pLw_0 z1 (r1 58 (by decide)) (r1 59 (by decide)) (r1 60 (by decide))) u1) (w1 58 (by decide)) (w1 59 (by decide)) (w1 60 (by decide))
             show pEx f n sz (bd (tk (kd f n) 35 a') (fun a'' _ => .inr (a'', c'))) σ σ4
             have ha' : a' ≤ 400 := t3.2.2.2.1
             rcases hr6 : tk (kd f n) 35 a' with e | ⟨a'', u'⟩
             · rw [hr6] at hw
               exact ⟨hw, pLw_lg hlw (by omega)⟩
             · rw [hr6] at hw
               have ha2 := (tk_r hr6).2.2
               exact ⟨by cases u'; exact hw, hlw, by omega⟩)
set_option maxRecDepth 100000 in
theorem c_parseProduct_2 {f : hF} {n sz : Nat} {s : hPR Unit} (ht : tokC f n σ) (hs : pSt f n s σ) (hz : szOk sz s σ) : hCal G (m_parseProduct_2 (hQp xEx none (rr 38 51 (some 58) y) σ τ (fun σ' => k7 σ σ' ∧ pEx f n sz (bd s (fun a _ => prodX (kd f n) (uX (kd f n) (vl f n) 4) a)) σ σ'))) [.ref (hgA G 7), .int (nI 2)] shp (rr 38 51 (some 58) y) σ τ := by
  refine hv_enter pn_X4 rfl ?_
  obtain ⟨U, hU⟩ : ∃ U : Nat → hPR hCd, uX (kd f n) (vl f n) 4 = U := ⟨_, rfl⟩
  have hUo : ∀ at', at' ≤ 400 → okG (kd f n) at' (fun a c => at' < a ∧ c.length ≤ a - at') (U at') := fun at' h => by
    rw [← hU]
    exact okG_mono _ (uX_ok (kd f n) (vl f n) 4 at' h) (fun a c _ _ q => ⟨q.1, q.2.2.1⟩)
  have call : ∀ {s2 : hPR Unit} {σ2 : hS} {sz2 : Nat}, tokC f n σ2 → pSt f n s2 σ2 → szOk sz2 s2 σ2 → hCal G (m_parseUnit_2 (hQp xEx none (rr 38 51 (some 58) y) σ2 τ (fun σ' => k7 σ2 σ' ∧ pEx f n sz2 (bd s2 (fun a _ => U a)) σ2 σ'))) [.ref (hgA G 7), .int (nI 2)] shp (rr 38 51 (some 58) y) σ2 τ := fun h1 h2 h3 => by
    rw [← hU]; exact c_parseUnit_2 h1 h2 h3
  rw [show (fun a (_ : Unit) => prodX (kd f n) (uX (kd f n) (vl f n) 4) a) = (fun a _ => bd (U a) (fun a c => prodL (kd f n) U 401 a c)) from by rw [← hU]; rfl]
  have loop : ∀ k i r res (σ1 : hS) (l3 : Option Value), i + k = 401 → (l3 = none ∨ ∃ z, l3 = some (.int z)) → (∀ c, c ∉ xEx → σ1 c = σ c) → k7 σ σ1 → pEx f n sz r σ σ1 → bd r (fun a c => prodL (kd f n) U k a c) = res → hV G (m_parseProduct_2 (hQp xEx none (rr 38 51 (some 58) y) σ τ (fun σ' => k7 σ σ' ∧ pEx f n sz res σ σ'))) 0 0 shp 7 [some (.ref (hgA G 7)), some (.int (nI 2)), some (.int (nI i)), l3] [] (rr 38 51 (some 58) y) σ1 τ := by
    intro k
    induction k with
    | zero =>
      intro i r res σ1 l3 hi hl3 hσ hk hp hr
      obtain rfl : i = 401 := by omega
      have hrr : r = res := by rw [← hr]; rcases r with e | ⟨a, c⟩ <;> rfl
      refine hv_iload_n dX4_parseProduct_7 rfl ?_
      refine hv_sipush (v := 400) dX4_parseProduct_8 (by decide) ?_
      refine hv_icmp_gt (tgt := 76) dX4_parseProduct_11 (by decide) (fun c_11 => ?_) (fun c_11 => absurd ((by decide)) c_11)
      refine hv_vret dX4_parseProduct_76 rfl ?_
      rw [← hrr]; exact ⟨rfl, rfl, rfl, hσ, hk, hp⟩
    | succ k ih =>
      intro i r res σ1 l3 hi hl3 hσ hk hp hr
      rcases r with ⟨z, t⟩ | ⟨a, c⟩
      · have hp2 := hp.1
        have h1 := hp2.1
        have hne : ¬ σ1 7 7 = 0 := by rw [h1]; exact nI_ne0 (by have := hp2.2.1; omega) (by have := hp2.2.1; omega)
        refine hv_iload_n dX4_parseProduct_7 rfl ?_
        refine hv_sipush (v := 400) dX4_parseProduct_8 (by decide) ?_
        refine hv_icmp_gt (tgt := 76) dX4_parseProduct_11 (by decide) (fun c_11 => absurd c_11 ((nI_nlt (a := 400) (by omega) (by decide)))) (fun c_11 => ?_)
        refine hv_aload_n dX4_parseProduct_14 rfl ?_
        refine hv_geti dX4_parseProduct_15 fl_X4_41 (by first | rfl | assumption) rfl ?_
        refine hv_if_ne (tgt := 76) dX4_parseProduct_18 (by decide) (fun c_18 => ?_) (fun c_18 => absurd c_18 (hne))
        refine hv_vret dX4_parseProduct_76 rfl ?_
        rw [← hr]; exact ⟨rfl, rfl, rfl, hσ, hk, hp⟩
      · obtain ⟨hp2, hp3, hp4⟩ := hp
        have h1 := hp2.1
        have h3 := hp2.2.2.1
        have ha4 := hp2.2.2.2.1
        have hkl := kd_le f n a
        have tk1 : tokC f n σ1 := tokC_of ht hσ rfl
        rw [show bd (Sum.inr (a, c) : hPR hCd) (fun a c => prodL (kd f n) U (k + 1) a c) = _ from prodL_s (kd f n) U k a c] at hr
        obtain ⟨o, ho⟩ : ∃ o : Int32, (if kd f n a = 31 then 4 else 5 : Int32) = o := ⟨_, rfl⟩
        rw [ho] at hr
        have go : ∀ (l3 : Option Value), (l3 = none ∨ ∃ z, l3 = some (.int z)) → (kd f n a = 31 ∨ kd f n a = 32) → bd (pass a) (fun a1 _ => bd (U a1) (fun a' c' => prodL (kd f n) U k a' (c ++ c' ++ [(o, 0)]))) = res → hV G (m_parseProduct_2 (hQp xEx none (rr 38 51 (some 58) y) σ τ (fun σ' => k7 σ σ' ∧ pEx f n sz res σ σ'))) 0 0 shp 47 [some (.ref (hgA G 7)), some (.int (nI 2)), some (.int (nI i)), some (.int o)] [] (rr 38 51 (some 58) y) σ1 τ := by
          intro l3 hl3 hop hr
          refine hv_aload_n dX4_parseProduct_47 rfl ?_
          refine hv_aload_n dX4_parseProduct_48 rfl ?_
          refine hv_geti dX4_parseProduct_49 fl_X4_29 (by first | rfl | assumption) rfl ?_
          refine hv_cv1 (c_pass tk1 hp2 (fun b w q => by cases q; omega)) dX4_parseProduct_52 ml_X4_63 mk_X4_take (by first | rfl | assumption) rfl rfl rfl rfl rfl ?_
          rintro _ _ σ2 _ ⟨rfl, rfl, rfl, r1, r2, r3⟩
          have r4 : pSt f n (pass a) σ2 := r3
          have hlw2 : pLw sz c σ σ2 := pLw_of hp3 (r1 58 (by decide)) (r1 59 (by decide)) (r1 60 (by decide))
          have hz2 : szOk (sz + c.length) (pass a) σ2 := ⟨hlw2.2.1, by omega, fun b w q => by have := pass_r q; omega⟩
          have tk2 : tokC f n σ2 := tokC_of tk1 r1 rfl
          refine hv_aload_n dX4_parseProduct_55 rfl ?_
          refine hv_iload_n dX4_parseProduct_56 rfl ?_
          refine hv_cv1 (call tk2 r4 hz2) dX4_parseProduct_57 ml_X4_94 mk_X4_parseUnit (by first | rfl | assumption) rfl rfl rfl rfl rfl ?_
          rintro _ _ σ3 _ ⟨rfl, rfl, rfl, t1, t2, t3, t9⟩
          have hso : okG (kd f n) a (fun a' c' => a + 1 < a' ∧ c'.length ≤ a' - (a + 1)) (bd (pass a) (fun a _ => U a)) := okG_bd _ (okG_pass _ ha4 (by omega)) (fun a1 _ _ a4 ea => by subst ea; exact hUo (a + 1) a4)
          rw [← bd_assoc] at hr
          obtain ⟨r5, hr5⟩ : ∃ r5, bd (pass a) (fun a _ => U a) = r5 := ⟨_, rfl⟩
          rw [hr5] at t3 t9 hso hr
          obtain ⟨z, hzz, hz4, hz6⟩ : ∃ z, σ3 58 5 = nI z ∧ z ≤ 410 ∧ ∀ a' c', r5 = .inr (a', c') → z = sz + c.length + c'.length ∧ z + 1 ≤ 10 + a' := by
            rcases r5 with e | ⟨a', c'⟩
            · obtain ⟨z, q1, q2⟩ := t9.2
              exact ⟨z, q2, q1, fun _ _ q => nomatch q⟩
            · have h9 := hso.2.2.2
              have h8 := hso.2.1
              exact ⟨sz + c.length + c'.length, t9.1.2.1, by omega, fun _ _ q => by cases q; exact ⟨rfl, by omega⟩⟩
          refine hv_aload_n dX4_parseProduct_60 rfl ?_
          refine hv_getr dX4_parseProduct_61 fl_X4_15 (by first | rfl | assumption) rfl (by first | rfl | assumption) ?_
          refine hv_iload_n dX4_parseProduct_64 rfl ?_
          refine hv_iconst (v := 0) dX4_parseProduct_65 (by decide) ?_
          refine hv_cv2 (c_lput hzz hz4) dX4_parseProduct_66 ml_X4_80 mk_X1_put (by first | rfl | assumption) rfl rfl rfl rfl rfl ?_
          rintro _ _ σ4 _ ⟨rfl, rfl, rfl, w1, w2⟩
          refine hv_pop dX4_parseProduct_69 rfl ?_
          refine hv_iinc dX4_parseProduct_70 rfl (nI_1 i) rfl rfl ?_
          refine hv_goto (tgt := 7) dX4_parseProduct_73 (by decide) ?_
          refine ih (i + 1) (bd r5 (fun a' c' => .inr (a', c ++ c' ++ [(o, 0)]))) res σ4 _ (by omega) (Or.inr ⟨_, rfl⟩) (off_tr (off_tr (off_tr hσ r1 (Z := xEx) (by decide) (by decide)) t1 (Z := xEx) (by decide) (by decide)) w1 (by decide) (by decide)) (k7_tr (k7_tr (k7_tr hk r2) t2) (fun j _ _ _ => by rw [w1 7 (by decide)])) ?_ (by rw [bd_assoc]; exact hr)
          rcases r5 with e | ⟨a', c'⟩
          · exact ⟨pSt_of t3 (w1 7 (by decide)), pLg_tr (fun j hj => (t9.1 j hj).trans (hlw2.1 j hj)) (pLg_p hzz hz4 w2)⟩
          · obtain ⟨e1, e2⟩ := hz6 a' c' rfl
            have h8 := hso.2.1
            subst e1
            exact ⟨pSt_of t3 (w1 7 (by decide)), pLw_tr (pLw_tr hlw2 t9.1) (by rw [List.length_append, ← Nat.add_assoc]; exact pLw_p1 (by omega) w2), by rw [List.length_append, List.length_append, List.length_singleton]; omega⟩
        rcases hl3 with rfl | ⟨z, rfl⟩
        · skip
          refine hv_iload_n dX4_parseProduct_7 rfl ?_
          refine hv_sipush (v := 400) dX4_parseProduct_8 (by decide) ?_
          refine hv_icmp_gt (tgt := 76) dX4_parseProduct_11 (by decide) (fun c_11 => absurd c_11 ((nI_nlt (a := 400) (by omega) (by decide)))) (fun c_11 => ?_)
          refine hv_aload_n dX4_parseProduct_14 rfl ?_
          refine hv_geti dX4_parseProduct_15 fl_X4_41 (by first | rfl | assumption) rfl ?_
          refine hv_if_ne (tgt := 76) dX4_parseProduct_18 (by decide) (fun c_18 => absurd (h1) c_18) (fun c_18 => ?_)
          refine hv_aload_n dX4_parseProduct_21 rfl ?_
          refine hv_bipush (v := 31) dX4_parseProduct_22 (by decide) ?_
          refine hv_bipush (v := 32) dX4_parseProduct_24 (by decide) ?_
          refine hv_cv2 (c_isOne) dX4_parseProduct_26 ml_X4_90 mk_X4_isOne (by first | rfl | assumption) rfl rfl rfl rfl rfl ?_
          rintro _ _ _ _ ⟨rfl, rfl, rfl, rfl⟩
          rw [h3]
          refine hv_if_eq (tgt := 76) dX4_parseProduct_29 (by decide) (fun c_29 => ?_) (fun c_29 => ?_)
          · have hop : ¬ (kd f n a = 31 ∨ kd f n a = 32) := fun q => of_decide_eq_false (bI_0 c_29) (by rcases q with q | q; exact Or.inl (by rw [q]; rfl); exact Or.inr (by rw [q]; rfl))
            rw [if_neg hop] at hr
            refine hv_vret dX4_parseProduct_76 rfl ?_
            rw [← hr]; exact ⟨rfl, rfl, rfl, hσ, hk, hp2, hp3, hp4⟩
          · have hop : kd f n a = 31 ∨ kd f n a = 32 := by
              rcases of_decide_eq_true (bI_1 c_29) with q | q
              · exact Or.inl ((nI_eq (b := 31) (by omega) (by decide)).mp q)
              · exact Or.inr ((nI_eq (b := 32) (by omega) (by decide)).mp q)
            rw [if_pos hop] at hr
            refine hv_aload_n dX4_parseProduct_32 rfl ?_
            refine hv_geti dX4_parseProduct_33 fl_X4_29 (by first | rfl | assumption) rfl ?_
            refine hv_bipush (v := 31) dX4_parseProduct_36 (by decide) ?_
            rw [h3]
            refine hv_icmp_ne (tgt := 45) dX4_parseProduct_38 (by decide) (fun c_38 => ?_) (fun c_38 => ?_)
            · rw [if_neg (fun q => c_38 (by rw [q]; rfl))] at ho
              refine hv_iconst (v := 5) dX4_parseProduct_45 (by decide) ?_
              refine hv_str (congrArg (fun z => [Value.int z]) ho) ?_
              refine hv_istore_n dX4_parseProduct_46 rfl rfl ?_
              exact go none (Or.inl rfl) hop hr
            · rw [if_pos ((nI_eq (b := 31) (by omega) (by decide)).mp c_38)] at ho
              refine hv_iconst (v := 4) dX4_parseProduct_41 (by decide) ?_
              refine hv_goto (tgt := 46) dX4_parseProduct_42 (by decide) ?_
              refine hv_str (congrArg (fun z => [Value.int z]) ho) ?_
              refine hv_istore_n dX4_parseProduct_46 rfl rfl ?_
              exact go none (Or.inl rfl) hop hr
        · skip
          refine hv_iload_n dX4_parseProduct_7 rfl ?_
          refine hv_sipush (v := 400) dX4_parseProduct_8 (by decide) ?_
          refine hv_icmp_gt (tgt := 76) dX4_parseProduct_11 (by decide) (fun c_11 => absurd c_11 ((nI_nlt (a := 400) (by omega) (by decide)))) (fun c_11 => ?_)
          refine hv_aload_n dX4_parseProduct_14 rfl ?_
          refine hv_geti dX4_parseProduct_15 fl_X4_41 (by first | rfl | assumption) rfl ?_
          refine hv_if_ne (tgt := 76) dX4_parseProduct_18 (by decide) (fun c_18 => absurd (h1) c_18) (fun c_18 => ?_)
          refine hv_aload_n dX4_parseProduct_21 rfl ?_
          refine hv_bipush (v := 31) dX4_parseProduct_22 (by decide) ?_
          refine hv_bipush (v := 32) dX4_parseProduct_24 (by decide) ?_
          refine hv_cv2 (c_isOne) dX4_parseProduct_26 ml_X4_90 mk_X4_isOne (by first | rfl | assumption) rfl rfl rfl rfl rfl ?_
          rintro _ _ _ _ ⟨rfl, rfl, rfl, rfl⟩
          rw [h3]
          refine hv_if_eq (tgt := 76) dX4_parseProduct_29 (by decide) (fun c_29 => ?_) (fun c_29 => ?_)
          · have hop : ¬ (kd f n a = 31 ∨ kd f n a = 32) := fun q => of_decide_eq_false (bI_0 c_29) (by rcases q with q | q; exact Or.inl (by rw [q]; rfl); exact Or.inr (by rw [q]; rfl))
            rw [if_neg hop] at hr
            refine hv_vret dX4_parseProduct_76 rfl ?_
            rw [← hr]; exact ⟨rfl, rfl, rfl, hσ, hk, hp2, hp3, hp4⟩
          · have hop : kd f n a = 31 ∨ kd f n a = 32 := by
              rcases of_decide_eq_true (bI_1 c_29) with q | q
              · exact Or.inl ((nI_eq (b := 31) (by omega) (by decide)).mp q)
              · exact Or.inr ((nI_eq (b := 32) (by omega) (by decide)).mp q)
            rw [if_pos hop] at hr
            refine hv_aload_n dX4_parseProduct_32 rfl ?_
            refine hv_geti dX4_parseProduct_33 fl_X4_29 (by first | rfl | assumption) rfl ?_
            refine hv_bipush (v := 31) dX4_parseProduct_36 (by decide) ?_
            rw [h3]
            refine hv_icmp_ne (tgt := 45) dX4_parseProduct_38 (by decide) (fun c_38 => ?_) (fun c_38 => ?_)
            · rw [if_neg (fun q => c_38 (by rw [q]; rfl))] at ho
              refine hv_iconst (v := 5) dX4_parseProduct_45 (by decide) ?_
              refine hv_str (congrArg (fun z => [Value.int z]) ho) ?_
              refine hv_istore_n dX4_parseProduct_46 rfl rfl ?_
              exact go none (Or.inl rfl) hop hr
            · rw [if_pos ((nI_eq (b := 31) (by omega) (by decide)).mp c_38)] at ho
              refine hv_iconst (v := 4) dX4_parseProduct_41 (by decide) ?_
              refine hv_goto (tgt := 46) dX4_parseProduct_42 (by decide) ?_
              refine hv_str (congrArg (fun z => [Value.int z]) ho) ?_
              refine hv_istore_n dX4_parseProduct_46 rfl rfl ?_
              exact go none (Or.inl rfl) hop hr
  refine hv_aload_n dX4_parseProduct_0 rfl ?_
  refine hv_iload_n dX4_parseProduct_1 rfl ?_
  refine hv_cv1 (call ht hs hz) dX4_parseProduct_2 ml_X4_94 mk_X4_parseUnit (by first | rfl | assumption) rfl rfl rfl rfl rfl ?_
  rintro _ _ σ1 _ ⟨rfl, rfl, rfl, q1, q2, q3⟩
  refine hv_iconst (v := 0) dX4_parseProduct_5 (by decide) ?_
  refine hv_istore_n dX4_parseProduct_6 rfl rfl ?_
  exact loop 401 0 (bd s (fun a _ => U a)) _ σ1 none (by omega) (Or.inl rfl) q1 q2 q3 (by rw [bd_assoc])
set_option maxRecDepth 100000 in
theorem c_parseSum_2 {f : hF} {n sz : Nat} {s : hPR Unit} (ht : tokC f n σ) (hs : pSt f n s σ) (hz : szOk sz s σ) : hCal G (m_parseSum_2 (hQp xEx none (rr 38 51 (some 58) y) σ τ (fun σ' => k7 σ σ' ∧ pEx f n sz (bd s (fun a _ => sumX (kd f n) (uX (kd f n) (vl f n) 4) a)) σ σ'))) [.ref (hgA G 7), .int (nI 2)] shp (rr 38 51 (some 58) y) σ τ := by
  refine hv_enter pn_X4 rfl ?_
  obtain ⟨U, hU⟩ : ∃ U : Nat → hPR hCd, prodX (kd f n) (uX (kd f n) (vl f n) 4) = U := ⟨_, rfl⟩
  have hUo : ∀ at', at' ≤ 400 → okG (kd f n) at' (fun a c => at' < a ∧ c.length ≤ a - at') (U at') := fun at' h => by
    rw [← hU]
    exact okG_mono _ (prodX_ok (kd f n) (uX_ok (kd f n) (vl f n) 4) at' h) (fun a c _ _ q => ⟨q.1.1, q.1.2.2.1⟩)
  have call : ∀ {s2 : hPR Unit} {σ2 : hS} {sz2 : Nat}, tokC f n σ2 → pSt f n s2 σ2 → szOk sz2 s2 σ2 → hCal G (m_parseProduct_2 (hQp xEx none (rr 38 51 (some 58) y) σ2 τ (fun σ' => k7 σ2 σ' ∧ pEx f n sz2 (bd s2 (fun a _ => U a)) σ2 σ'))) [.ref (hgA G 7), .int (nI 2)] shp (rr 38 51 (some 58) y) σ2 τ := fun h1 h2 h3 => by
    rw [← hU]; exact c_parseProduct_2 h1 h2 h3
  rw [show (fun a (_ : Unit) => sumX (kd f n) (uX (kd f n) (vl f n) 4) a) = (fun a _ => bd (U a) (fun a c => sumL (kd f n) U 401 a c)) from by rw [← hU]; rfl]
  have loop : ∀ k i r res (σ1 : hS) (l3 : Option Value), i + k = 401 → (l3 = none ∨ ∃ z, l3 = some (.int z)) → (∀ c, c ∉ xEx → σ1 c = σ c) → k7 σ σ1 → pEx f n sz r σ σ1 → bd r (fun a c => sumL (kd f n) U k a c) = res → hV G (m_parseSum_2 (hQp xEx none (rr 38 51 (some 58) y) σ τ (fun σ' => k7 σ σ' ∧ pEx f n sz res σ σ'))) 0 0 shp 7 [some (.ref (hgA G 7)), some (.int (nI 2)), some (.int (nI i)), l3] [] (rr 38 51 (some 58) y) σ1 τ := by
    intro k
    induction k with
    | zero =>
      intro i r res σ1 l3 hi hl3 hσ hk hp hr
      obtain rfl : i = 401 := by omega
      have hrr : r = res := by rw [← hr]; rcases r with e | ⟨a, c⟩ <;> rfl
      refine hv_iload_n dX4_parseSum_7 rfl ?_
      refine hv_sipush (v := 400) dX4_parseSum_8 (by decide) ?_
      refine hv_icmp_gt (tgt := 76) dX4_parseSum_11 (by decide) (fun c_11 => ?_) (fun c_11 => absurd ((by decide)) c_11)
      refine hv_vret dX4_parseSum_76 rfl ?_
      rw [← hrr]; exact ⟨rfl, rfl, rfl, hσ, hk, hp⟩
    | succ k ih =>
      intro i r res σ1 l3 hi hl3 hσ hk hp hr
      rcases r with ⟨z, t⟩ | ⟨a, c⟩
      · have hp2 := hp.1
        have h1 := hp2.1
        have hne : ¬ σ1 7 7 = 0 := by rw [h1]; exact nI_ne0 (by have := hp2.2.1; omega) (by have := hp2.2.1; omega)
        refine hv_iload_n dX4_parseSum_7 rfl ?_
        refine hv_sipush (v := 400) dX4_parseSum_8 (by decide) ?_
        refine hv_icmp_gt (tgt := 76) dX4_parseSum_11 (by decide) (fun c_11 => absurd c_11 ((nI_nlt (a := 400) (by omega) (by decide)))) (fun c_11 => ?_)
        refine hv_aload_n dX4_parseSum_14 rfl ?_
        refine hv_geti dX4_parseSum_15 fl_X4_41 (by first | rfl | assumption) rfl ?_
        refine hv_if_ne (tgt := 76) dX4_parseSum_18 (by decide) (fun c_18 => ?_) (fun c_18 => absurd c_18 (hne))
        refine hv_vret dX4_parseSum_76 rfl ?_
        rw [← hr]; exact ⟨rfl, rfl, rfl, hσ, hk, hp⟩
      · obtain ⟨hp2, hp3, hp4⟩ := hp
        have h1 := hp2.1
        have h3 := hp2.2.2.1
        have ha4 := hp2.2.2.2.1
        have hkl := kd_le f n a
        have tk1 : tokC f n σ1 := tokC_of ht hσ rfl
        rw [show bd (Sum.inr (a, c) : hPR hCd) (fun a c => sumL (kd f n) U (k + 1) a c) = _ from sumL_s (kd f n) U k a c] at hr
        obtain ⟨o, ho⟩ : ∃ o : Int32, (if kd f n a = 29 then 2 else 3 : Int32) = o := ⟨_, rfl⟩
        rw [ho] at hr
        have go : ∀ (l3 : Option Value), (l3 = none ∨ ∃ z, l3 = some (.int z)) → (kd f n a = 29 ∨ kd f n a = 30) → bd (pass a) (fun a1 _ => bd (U a1) (fun a' c' => sumL (kd f n) U k a' (c ++ c' ++ [(o, 0)]))) = res → hV G (m_parseSum_2 (hQp xEx none (rr 38 51 (some 58) y) σ τ (fun σ' => k7 σ σ' ∧ pEx f n sz res σ σ'))) 0 0 shp 47 [some (.ref (hgA G 7)), some (.int (nI 2)), some (.int (nI i)), some (.int o)] [] (rr 38 51 (some 58) y) σ1 τ := by
          intro l3 hl3 hop hr
          refine hv_aload_n dX4_parseSum_47 rfl ?_
          refine hv_aload_n dX4_parseSum_48 rfl ?_
          refine hv_geti dX4_parseSum_49 fl_X4_29 (by first | rfl | assumption) rfl ?_
          refine hv_cv1 (c_pass tk1 hp2 (fun b w q => by cases q; omega)) dX4_parseSum_52 ml_X4_63 mk_X4_take (by first | rfl | assumption) rfl rfl rfl rfl rfl ?_
          rintro _ _ σ2 _ ⟨rfl, rfl, rfl, r1, r2, r3⟩
          have r4 : pSt f n (pass a) σ2 := r3
          have hlw2 : pLw sz c σ σ2 := pLw_of hp3 (r1 58 (by decide)) (r1 59 (by decide)) (r1 60 (by decide))
          have hz2 : szOk (sz + c.length) (pass a) σ2 := ⟨hlw2.2.1, by omega, fun b w q => by have := pass_r q; omega⟩
          have tk2 : tokC f n σ2 := tokC_of tk1 r1 rfl
          refine hv_aload_n dX4_parseSum_55 rfl ?_
          refine hv_iload_n dX4_parseSum_56 rfl ?_
          refine hv_cv1 (call tk2 r4 hz2) dX4_parseSum_57 ml_X4_87 mk_X4_parseProduct (by first | rfl | assumption) rfl rfl rfl rfl rfl ?_
          rintro _ _ σ3 _ ⟨rfl, rfl, rfl, t1, t2, t3, t9⟩
          have hso : okG (kd f n) a (fun a' c' => a + 1 < a' ∧ c'.length ≤ a' - (a + 1)) (bd (pass a) (fun a _ => U a)) := okG_bd _ (okG_pass _ ha4 (by omega)) (fun a1 _ _ a4 ea => by subst ea; exact hUo (a + 1) a4)
          rw [← bd_assoc] at hr
          obtain ⟨r5, hr5⟩ : ∃ r5, bd (pass a) (fun a _ => U a) = r5 := ⟨_, rfl⟩
          rw [hr5] at t3 t9 hso hr
          obtain ⟨z, hzz, hz4, hz6⟩ : ∃ z, σ3 58 5 = nI z ∧ z ≤ 410 ∧ ∀ a' c', r5 = .inr (a', c') → z = sz + c.length + c'.length ∧ z + 1 ≤ 10 + a' := by
            rcases r5 with e | ⟨a', c'⟩
            · obtain ⟨z, q1, q2⟩ := t9.2
              exact ⟨z, q2, q1, fun _ _ q => nomatch q⟩
            · have h9 := hso.2.2.2
              have h8 := hso.2.1
              exact ⟨sz + c.length + c'.length, t9.1.2.1, by omega, fun _ _ q => by cases q; exact ⟨rfl, by omega⟩⟩
          refine hv_aload_n dX4_parseSum_60 rfl ?_
          refine hv_getr dX4_parseSum_61 fl_X4_15 (by first | rfl | assumption) rfl (by first | rfl | assumption) ?_
          refine hv_iload_n dX4_parseSum_64 rfl ?_
          refine hv_iconst (v := 0) dX4_parseSum_65 (by decide) ?_
          refine hv_cv2 (c_lput hzz hz4) dX4_parseSum_66 ml_X4_80 mk_X1_put (by first | rfl | assumption) rfl rfl rfl rfl rfl ?_
          rintro _ _ σ4 _ ⟨rfl, rfl, rfl, w1, w2⟩
          refine hv_pop dX4_parseSum_69 rfl ?_
          refine hv_iinc dX4_parseSum_70 rfl (nI_1 i) rfl rfl ?_
          refine hv_goto (tgt := 7) dX4_parseSum_73 (by decide) ?_
          refine ih (i + 1) (bd r5 (fun a' c' => .inr (a', c ++ c' ++ [(o, 0)]))) res σ4 _ (by omega) (Or.inr ⟨_, rfl⟩) (off_tr (off_tr (off_tr hσ r1 (Z := xEx) (by decide) (by decide)) t1 (Z := xEx) (by decide) (by decide)) w1 (by decide) (by decide)) (k7_tr (k7_tr (k7_tr hk r2) t2) (fun j _ _ _ => by rw [w1 7 (by decide)])) ?_ (by rw [bd_assoc]; exact hr)
          rcases r5 with e | ⟨a', c'⟩
          · exact ⟨pSt_of t3 (w1 7 (by decide)), pLg_tr (fun j hj => (t9.1 j hj).trans (hlw2.1 j hj)) (pLg_p hzz hz4 w2)⟩
          · obtain ⟨e1, e2⟩ := hz6 a' c' rfl
            have h8 := hso.2.1
            subst e1
            exact ⟨pSt_of t3 (w1 7 (by decide)), pLw_tr (pLw_tr hlw2 t9.1) (by rw [List.length_append, ← Nat.add_assoc]; exact pLw_p1 (by omega) w2), by rw [List.length_append, List.length_append, List.length_singleton]; omega⟩
        rcases hl3 with rfl | ⟨z, rfl⟩
        · skip
          refine hv_iload_n dX4_parseSum_7 rfl ?_
          refine hv_sipush (v := 400) dX4_parseSum_8 (by decide) ?_
          refine hv_icmp_gt (tgt := 76) dX4_parseSum_11 (by decide) (fun c_11 => absurd c_11 ((nI_nlt (a := 400) (by omega) (by decide)))) (fun c_11 => ?_)
          refine hv_aload_n dX4_parseSum_14 rfl ?_
          refine hv_geti dX4_parseSum_15 fl_X4_41 (by first | rfl | assumption) rfl ?_
          refine hv_if_ne (tgt := 76) dX4_parseSum_18 (by decide) (fun c_18 => absurd (h1) c_18) (fun c_18 => ?_)
          refine hv_aload_n dX4_parseSum_21 rfl ?_
          refine hv_bipush (v := 29) dX4_parseSum_22 (by decide) ?_
          refine hv_bipush (v := 30) dX4_parseSum_24 (by decide) ?_
          refine hv_cv2 (c_isOne) dX4_parseSum_26 ml_X4_90 mk_X4_isOne (by first | rfl | assumption) rfl rfl rfl rfl rfl ?_
          rintro _ _ _ _ ⟨rfl, rfl, rfl, rfl⟩
          rw [h3]
          refine hv_if_eq (tgt := 76) dX4_parseSum_29 (by decide) (fun c_29 => ?_) (fun c_29 => ?_)
          · have hop : ¬ (kd f n a = 29 ∨ kd f n a = 30) := fun q => of_decide_eq_false (bI_0 c_29) (by rcases q with q | q; exact Or.inl (by rw [q]; rfl); exact Or.inr (by rw [q]; rfl))
            rw [if_neg hop] at hr
            refine hv_vret dX4_parseSum_76 rfl ?_
            rw [← hr]; exact ⟨rfl, rfl, rfl, hσ, hk, hp2, hp3, hp4⟩
          · have hop : kd f n a = 29 ∨ kd f n a = 30 := by
              rcases of_decide_eq_true (bI_1 c_29) with q | q
              · exact Or.inl ((nI_eq (b := 29) (by omega) (by decide)).mp q)
              · exact Or.inr ((nI_eq (b := 30) (by omega) (by decide)).mp q)
            rw [if_pos hop] at hr
            refine hv_aload_n dX4_parseSum_32 rfl ?_
            refine hv_geti dX4_parseSum_33 fl_X4_29 (by first | rfl | assumption) rfl ?_
            refine hv_bipush (v := 29) dX4_parseSum_36 (by decide) ?_
            rw [h3]
            refine hv_icmp_ne (tgt := 45) dX4_parseSum_38 (by decide) (fun c_38 => ?_) (fun c_38 => ?_)
            · rw [if_neg (fun q => c_38 (by rw [q]; rfl))] at ho
              refine hv_iconst (v := 3) dX4_parseSum_45 (by decide) ?_
              refine hv_str (congrArg (fun z => [Value.int z]) ho) ?_
              refine hv_istore_n dX4_parseSum_46 rfl rfl ?_
              exact go none (Or.inl rfl) hop hr
            · rw [if_pos ((nI_eq (b := 29) (by omega) (by decide)).mp c_38)] at ho
              refine hv_iconst (v := 2) dX4_parseSum_41 (by decide) ?_
              refine hv_goto (tgt := 46) dX4_parseSum_42 (by decide) ?_
              refine hv_str (congrArg (fun z => [Value.int z]) ho) ?_
              refine hv_istore_n dX4_parseSum_46 rfl rfl ?_
              exact go none (Or.inl rfl) hop hr
        · skip
          refine hv_iload_n dX4_parseSum_7 rfl ?_
          refine hv_sipush (v := 400) dX4_parseSum_8 (by decide) ?_
          refine hv_icmp_gt (tgt := 76) dX4_parseSum_11 (by decide) (fun c_11 => absurd c_11 ((nI_nlt (a := 400) (by omega) (by decide)))) (fun c_11 => ?_)
          refine hv_aload_n dX4_parseSum_14 rfl ?_
          refine hv_geti dX4_parseSum_15 fl_X4_41 (by first | rfl | assumption) rfl ?_
          refine hv_if_ne (tgt := 76) dX4_parseSum_18 (by decide) (fun c_18 => absurd (h1) c_18) (fun c_18 => ?_)
          refine hv_aload_n dX4_parseSum_21 rfl ?_
          refine hv_bipush (v := 29) dX4_parseSum_22 (by decide) ?_
          refine hv_bipush (v := 30) dX4_parseSum_24 (by decide) ?_
          refine hv_cv2 (c_isOne) dX4_parseSum_26 ml_X4_90 mk_X4_isOne (by first | rfl | assumption) rfl rfl rfl rfl rfl ?_
          rintro _ _ _ _ ⟨rfl, rfl, rfl, rfl⟩
          rw [h3]
          refine hv_if_eq (tgt := 76) dX4_parseSum_29 (by decide) (fun c_29 => ?_) (fun c_29 => ?_)
          · have hop : ¬ (kd f n a = 29 ∨ kd f n a = 30) := fun q => of_decide_eq_false (bI_0 c_29) (by rcases q with q | q; exact Or.inl (by rw [q]; rfl); exact Or.inr (by rw [q]; rfl))
            rw [if_neg hop] at hr
            refine hv_vret dX4_parseSum_76 rfl ?_
            rw [← hr]; exact ⟨rfl, rfl, rfl, hσ, hk, hp2, hp3, hp4⟩
          · have hop : kd f n a = 29 ∨ kd f n a = 30 := by
              rcases of_decide_eq_true (bI_1 c_29) with q | q
              · exact Or.inl ((nI_eq (b := 29) (by omega) (by decide)).mp q)
              · exact Or.inr ((nI_eq (b := 30) (by omega) (by decide)).mp q)
            rw [if_pos hop] at hr
            refine hv_aload_n dX4_parseSum_32 rfl ?_
            refine hv_geti dX4_parseSum_33 fl_X4_29 (by first | rfl | assumption) rfl ?_
            refine hv_bipush (v := 29) dX4_parseSum_36 (by decide) ?_
            rw [h3]
            refine hv_icmp_ne (tgt := 45) dX4_parseSum_38 (by decide) (fun c_38 => ?_) (fun c_38 => ?_)
            · rw [if_neg (fun q => c_38 (by rw [q]; rfl))] at ho
              refine hv_iconst (v := 3) dX4_parseSum_45 (by decide) ?_
              refine hv_str (congrArg (fun z => [Value.int z]) ho) ?_
              refine hv_istore_n dX4_parseSum_46 rfl rfl ?_
              exact go none (Or.inl rfl) hop hr
            · rw [if_pos ((nI_eq (b := 29) (by omega) (by decide)).mp c_38)] at ho
              refine hv_iconst (v := 2) dX4_parseSum_41 (by decide) ?_
              refine hv_goto (tgt := 46) dX4_parseSum_42 (by decide) ?_
              refine hv_str (congrArg (fun z => [Value.int z]) ho) ?_
              refine hv_istore_n dX4_parseSum_46 rfl rfl ?_
              exact go none (Or.inl rfl) hop hr
  refine hv_aload_n dX4_parseSum_0 rfl ?_
  refine hv_iload_n dX4_parseSum_1 rfl ?_
  refine hv_cv1 (call ht hs hz) dX4_parseSum_2 ml_X4_87 mk_X4_parseProduct (by first | rfl | assumption) rfl rfl rfl rfl rfl ?_
  rintro _ _ σ1 _ ⟨rfl, rfl, rfl, q1, q2, q3⟩
  refine hv_iconst (v := 0) dX4_parseSum_5 (by decide) ?_
  refine hv_istore_n dX4_parseSum_6 rfl rfl ?_
  exact loop 401 0 (bd s (fun a _ => U a)) _ σ1 none (by omega) (Or.inl rfl) q1 q2 q3 (by rw [bd_assoc])
set_option maxRecDepth 100000 in
theorem c_parseUnit_1 {f : hF} {n sz : Nat} {s : hPR Unit} (ht : tokC f n σ) (hs : pSt f n s σ) (hz : szOk sz s σ) : hCal G (m_parseUnit_1 (hQp xEx none (rr 38 51 (some 58) y) σ τ (fun σ' => k7 σ σ' ∧ pEx f n sz (bd s (fun a _ => uX (kd f n) (vl f n) 5 a)) σ σ'))) [.ref (hgA G 7), .int (nI 1)] shp (rr 38 51 (some 58) y) σ τ := by
  refine hv_enter pn_X4 rfl ?_
  obtain ⟨z1, z2, z3⟩ := hz
  rcases s with ⟨z, t⟩ | ⟨a, u⟩
  · have h1 := hs.1
    have hne : ¬ σ 7 7 = 0 := by rw [h1]; exact nI_ne0 (by have := hs.2.1; omega) (by have := hs.2.1; omega)
    refine hv_aload_n dX4_parseUnit_0 rfl ?_
    refine hv_geti dX4_parseUnit_1 fl_X4_41 (by first | rfl | assumption) rfl ?_
    refine hv_if_eq (tgt := 8) dX4_parseUnit_4 (by decide) (fun c_4 => absurd c_4 (hne)) (fun c_4 => ?_)
    refine hv_vret dX4_parseUnit_7 rfl ?_
    exact ⟨rfl, rfl, rfl, fun _ _ => rfl, k7_rf, hs, fun _ _ => rfl, sz, z2, z1⟩
  · have hsz := z3 a u rfl
    have h1 := hs.1
    have h2 := hs.2.1
    have h3 := hs.2.2.1
    have h4 := hs.2.2.2
    have ha := h4.1
    have hkl := kd_le f n a
    have hu := uX_s (kd f n) (vl f n) 4 a
    rw [show bd (Sum.inr (a, u) : hPR Unit) (fun a _ => uX (kd f n) (vl f n) 5 a) = _ from hu]
    have leaf : ∀ (k o : Int32) (σ1 : hS), (∀ k, k ∉ [58, 59, 60] → σ1 k = σ k) → pPut sz k o σ σ1 → tokC f n σ1 ∧ pSt f n (.inr (a, u)) σ1 ∧ ∀ σ2 : hS, (∀ k, k ∉ [7] → σ2 k = σ1 k) → k7 σ1 σ2 → pSt f n (bd (Sum.inr (a, u) : hPR Unit) (fun a _ => pass a)) σ2 → (∀ c, c ∉ xEx → σ2 c = σ c) ∧ k7 σ σ2 ∧ pEx f n sz (bd (pass a) (fun a _ => .inr (a, [(k, o)]))) σ σ2 := by
      intro k o σ1 q1 q2
      refine ⟨tokC_of ht q1 rfl, pSt_of hs (q1 7 (by decide)), fun σ2 r1 r2 r3 => ⟨off_tr q1 r1 (by decide) (by decide), k7_tr (fun j _ _ _ => by rw [q1 7 (by decide)]) r2, ?_⟩⟩
      have r4 : pSt f n (pass a) σ2 := r3
      unfold pass at r4 ⊢
      by_cases c : a < 400
      · rw [if_pos c] at r4 ⊢
        exact ⟨r4, pLw_of (pLw_p1 (by omega) q2) (r1 58 (by decide)) (r1 59 (by decide)) (r1 60 (by decide)), by simp; omega⟩
      · rw [if_neg c] at r4 ⊢
        exact ⟨r4, pLg_of (pLg_p z1 z2 q2) (r1 58 (by decide))⟩
    have flt : ∀ v : Nat, (v = 1 ∨ v = 2) → pEx f n sz (.inl (v, a)) σ (va_up σ 7 (upd (σ 7) 7 (nI v))) := by
      intro v hv
      exact ⟨⟨by rw [hup_eq, pk_us], hv, by rw [hup_eq, pk_un (by decide)]; exact h2, h4⟩, fun j hj => by rw [hva_ne (by decide)], sz, z2, by rw [hva_ne (by decide)]; exact z1⟩
    refine hv_aload_n dX4_parseUnit_0 rfl ?_
    refine hv_geti dX4_parseUnit_1 fl_X4_41 (by first | rfl | assumption) rfl ?_
    refine hv_if_eq (tgt := 8) dX4_parseUnit_4 (by decide) (fun c_4 => ?_) (fun c_4 => absurd (h1) c_4)
    refine hv_aload_n dX4_parseUnit_8 rfl ?_
    refine hv_geti dX4_parseUnit_9 fl_X4_29 (by first | rfl | assumption) rfl ?_
    refine hv_bipush (v := 24) dX4_parseUnit_12 (by decide) ?_
    rw [h3]
    refine hv_icmp_ne (tgt := 48) dX4_parseUnit_14 (by decide) (fun c_14 => ?_) (fun c_14 => ?_)
    · have hk : ¬ kd f n a = 24 := fun q => c_14 (by rw [q]; rfl)
      rw [if_neg hk]
      refine hv_aload_n dX4_parseUnit_48 rfl ?_
      refine hv_geti dX4_parseUnit_49 fl_X4_29 (by first | rfl | assumption) rfl ?_
      refine hv_bipush (v := 14) dX4_parseUnit_52 (by decide) ?_
      rw [h3]
      refine hv_icmp_lt (tgt := 93) dX4_parseUnit_54 (by decide) (fun c_54 => ?_) (fun c_54 => ?_)
      · have hv : ¬ (14 ≤ kd f n a ∧ kd f n a ≤ 22) := fun q => by have := (nI_ltI (b := 14) (by omega) (by decide)).mp c_54; omega
        rw [if_neg hv]
        refine hv_aload_n dX4_parseUnit_93 rfl ?_
        refine hv_geti dX4_parseUnit_94 fl_X4_29 (by first | rfl | assumption) rfl ?_
        refine hv_bipush (v := 34) dX4_parseUnit_97 (by decide) ?_
        rw [h3]
        refine hv_icmp_eq (tgt := 110) dX4_parseUnit_99 (by decide) (fun c_99 => ?_) (fun c_99 => ?_)
        · have ho : kd f n a = 34 := (nI_eq (b := 34) (by omega) (by decide)).mp c_99
          rw [if_pos ho]
          refine hv_iload_n dX4_parseUnit_110 rfl ?_
          refine hv_bipush (v := 6) dX4_parseUnit_111 (by decide) ?_
          refine hv_icmp_lt (tgt := 124) dX4_parseUnit_113 (by decide) (fun c_113 => ?_) (fun c_113 => absurd ((by decide)) c_113)
          refine hv_aload_n dX4_parseUnit_124 rfl ?_
          refine hv_aload_n dX4_parseUnit_125 rfl ?_
          refine hv_geti dX4_parseUnit_126 fl_X4_29 (by first | rfl | assumption) rfl ?_
          refine hv_cv1 (c_pass ht hs (fun b w q => by cases q; rw [ho]; decide)) dX4_parseUnit_129 ml_X4_63 mk_X4_take (by first | rfl | assumption) rfl rfl rfl rfl rfl ?_
          rintro _ _ σ2 _ ⟨rfl, rfl, rfl, r1, r2, r3⟩
          have r4 : pSt f n (pass a) σ2 := r3
          have hz2 : szOk sz (pass a) σ2 := ⟨by rw [r1 58 (by decide)]; exact z1, z2, fun b w q => by have := pass_r q; omega⟩
          refine hv_aload_n dX4_parseUnit_132 rfl ?_
          refine hv_iload_n dX4_parseUnit_133 rfl ?_
          refine hv_iconst (v := 1) dX4_parseUnit_134 (by decide) ?_
          refine hv_iadd dX4_parseUnit_135 ?_
          refine hv_cv1 (c_parseSum_2 (tokC_of ht r1 rfl) r4 hz2) dX4_parseUnit_136 ml_X4_77 mk_X4_parseSum (by first | rfl | assumption) rfl rfl rfl rfl rfl ?_
          rintro _ _ σ3 _ ⟨rfl, rfl, rfl, t1, t2, t3, t9⟩
          obtain ⟨r5, hr5⟩ : ∃ r5, bd (pass a) (fun a _ => sumX (kd f n) (uX (kd f n) (vl f n) 4) a) = r5 := ⟨_, rfl⟩
          rw [hr5] at t3 t9
          rw [← bd_assoc, hr5]
          have t4 : tokC f n σ3 := tokC_of (tokC_of ht r1 rfl) t1 rfl
          refine hv_aload_n dX4_parseUnit_139 rfl ?_
          refine hv_bipush (v := 35) dX4_parseUnit_140 (by decide) ?_
          refine hv_cv1 (c_take (k := 35) t4 t3 (by decide) (by decide)) dX4_parseUnit_142 ml_X4_63 mk_X4_take (by first | rfl | assumption) rfl rfl rfl rfl rfl ?_
          rintro _ _ σ4 _ ⟨rfl, rfl, rfl, w1, w2, w3⟩
          refine hv_vret dX4_parseUnit_145 rfl ?_
          first
            | exact ⟨rfl, rfl, rfl, m1, m2, m3⟩
            | exact ⟨rfl, rfl, rfl, off_up (fun _ _ => rfl) (by decide), fun j j1 j2 j3 => by rw [hup_eq, pk_un j3], flt 1 (Or.inl rfl)⟩
            | (refine ⟨rfl, rfl, rfl, off_tr (off_tr r1 t1 (Z := xEx) (by decide) (by decide)) w1 (by decide) (by decide), k7_tr (k7_tr r2 t2) w2, ?_⟩
               have e2 : ∀ j, j ≠ 5 → σ2 58 j = σ 58 j := fun j _ => by rw [r1 58 (by decide)]
               rcases r5 with e | ⟨a', c'⟩
               · exact ⟨w3, pLg_of (pLg_tr e2 t9) (w1 58 (by decide))⟩
               · obtain ⟨u1, u2⟩ := t9
                 have hw : pSt f n (tk (kd f n) 35 a') σ4 := w3
                 have hlw : pLw sz c' σ σ4 := pLw_of (pLw_tr (c := []) (pLw_0 z1 (r1 58 (by decide)) (r1 59 (by decide)) (r1 60 (by decide))) u1) (w1 58 (by decide)) (w1 59 (by decide)) (w1 60 (by decide))
                 show pEx f n sz (bd (tk (kd f n) 35 a') (fun a'' _ => .inr (a'', c'))) σ σ4
                 have ha' : a' ≤ 400 := t3.2.2.2.1
                 rcases hr6 : tk (kd f n) 35 a' with e | ⟨a'', u'⟩
                 · rw [hr6] at hw
                   exact ⟨hw, pLw_lg hlw (by omega)⟩
                 · rw [hr6] at hw
                   have ha2 := (tk_r hr6).2.2
                   exact ⟨by cases u'; exact hw, hlw, by omega⟩)
        · have ho : ¬ kd f n a = 34 := fun q => c_99 (by rw [q]; rfl)
          rw [if_neg ho]
          refine hv_aload_n dX4_parseUnit_102 rfl ?_
          refine hv_iconst (v := 1) dX4_parseUnit_103 (by decide) ?_
          refine hv_cv1 (c_pfail) dX4_parseUnit_104 ml_X4_60 mk_X4_fail (by first | rfl | assumption) rfl rfl rfl rfl rfl ?_
          rintro _ _ _ _ ⟨rfl, rfl, rfl, rfl⟩
          rw [if_pos h1]
          refine hv_goto (tgt := 145) dX4_parseUnit_107 (by decide) ?_
          refine hv_vret dX4_parseUnit_145 rfl ?_
          first
            | exact ⟨rfl, rfl, rfl, m1, m2, m3⟩
            | exact ⟨rfl, rfl, rfl, off_up (fun _ _ => rfl) (by decide), fun j j1 j2 j3 => by rw [hup_eq, pk_un j3], flt 1 (Or.inl rfl)⟩
            | (refine ⟨rfl, rfl, rfl, off_tr (off_tr r1 t1 (Z := xEx) (by decide) (by decide)) w1 (by decide) (by decide), k7_tr (k7_tr r2 t2) w2, ?_⟩
               have e2 : ∀ j, j ≠ 5 → σ2 58 j = σ 58 j := fun j _ => by rw [r1 58 (by decide)]
               rcases r5 with e | ⟨a', c'⟩
               · exact ⟨w3, pLg_of (pLg_tr e2 t9) (w1 58 (by decide))⟩
               · obtain ⟨u1, u2⟩ := t9
                 have hw : pSt f n (tk (kd f n) 35 a') σ4 := w3
                 have hlw : pLw sz c' σ σ4 := pLw_of (pLw_tr (c := []) (pLw_0 z1 (r1 58 (by decide)) (r1 59 (by decide)) (r1 60 (by decide))) u1) (w1 58 (by decide)) (w1 59 (by decide)) (w1 60 (by decide))
                 show pEx f n sz (bd (tk (kd f n) 35 a') (fun a'' _ => .inr (a'', c'))) σ σ4
                 have ha' : a' ≤ 400 := t3.2.2.2.1
                 rcases hr6 : tk (kd f n) 35 a' with e | ⟨a'', u'⟩
                 · rw [hr6] at hw
                   exact ⟨hw, pLw_lg hlw (by omega)⟩
                 · rw [hr6] at hw
                   have ha2 := (tk_r hr6).2.2
                   exact ⟨by cases u'; exact hw, hlw, by omega⟩)
      · refine hv_aload_n dX4_parseUnit_57 rfl ?_
        refine hv_geti dX4_parseUnit_58 fl_X4_29 (by first | rfl | assumption) rfl ?_
        refine hv_bipush (v := 22) dX4_parseUnit_61 (by decide) ?_
        rw [h3]
        refine hv_icmp_gt (tgt := 93) dX4_parseUnit_63 (by decide) (fun c_63 => ?_) (fun c_63 => ?_)
        · have hv : ¬ (14 ≤ kd f n a ∧ kd f n a ≤ 22) := fun q => by have := (nI_ltI (a := 22) (by decide) (by omega)).mp c_63; omega
          rw [if_neg hv]
          refine hv_aload_n dX4_parseUnit_93 rfl ?_
          refine hv_geti dX4_parseUnit_94 fl_X4_29 (by first | rfl | assumption) rfl ?_
          refine hv_bipush (v := 34) dX4_parseUnit_97 (by decide) ?_
          rw [h3]
          refine hv_icmp_eq (tgt := 110) dX4_parseUnit_99 (by decide) (fun c_99 => ?_) (fun c_99 => ?_)
          · have ho : kd f n a = 34 := (nI_eq (b := 34) (by omega) (by decide)).mp c_99
            rw [if_pos ho]
            refine hv_iload_n dX4_parseUnit_110 rfl ?_
            refine hv_bipush (v := 6) dX4_parseUnit_111 (by decide) ?_
            refine hv_icmp_lt (tgt := 124) dX4_parseUnit_113 (by decide) (fun c_113 => ?_) (fun c_113 => absurd ((by decide)) c_113)
            refine hv_aload_n dX4_parseUnit_124 rfl ?_
            refine hv_aload_n dX4_parseUnit_125 rfl ?_
            refine hv_geti dX4_parseUnit_126 fl_X4_29 (by first | rfl | assumption) rfl ?_
            refine hv_cv1 (c_pass ht hs (fun b w q => by cases q; rw [ho]; decide)) dX4_parseUnit_129 ml_X4_63 mk_X4_take (by first | rfl | assumption) rfl rfl rfl rfl rfl ?_
            rintro _ _ σ2 _ ⟨rfl, rfl, rfl, r1, r2, r3⟩
            have r4 : pSt f n (pass a) σ2 := r3
            have hz2 : szOk sz (pass a) σ2 := ⟨by rw [r1 58 (by decide)]; exact z1, z2, fun b w q => by have := pass_r q; omega⟩
            refine hv_aload_n dX4_parseUnit_132 rfl ?_
            refine hv_iload_n dX4_parseUnit_133 rfl ?_
            refine hv_iconst (v := 1) dX4_parseUnit_134 (by decide) ?_
            refine hv_iadd dX4_parseUnit_135 ?_
            refine hv_cv1 (c_parseSum_2 (tokC_of ht r1 rfl) r4 hz2) dX4_parseUnit_136 ml_X4_77 mk_X4_parseSum (by first | rfl | assumption) rfl rfl rfl rfl rfl ?_
            rintro _ _ σ3 _ ⟨rfl, rfl, rfl, t1, t2, t3, t9⟩
            obtain ⟨r5, hr5⟩ : ∃ r5, bd (pass a) (fun a _ => sumX (kd f n) (uX (kd f n) (vl f n) 4) a) = r5 := ⟨_, rfl⟩
            rw [hr5] at t3 t9
            rw [← bd_assoc, hr5]
            have t4 : tokC f n σ3 := tokC_of (tokC_of ht r1 rfl) t1 rfl
            refine hv_aload_n dX4_parseUnit_139 rfl ?_
            refine hv_bipush (v := 35) dX4_parseUnit_140 (by decide) ?_
            refine hv_cv1 (c_take (k := 35) t4 t3 (by decide) (by decide)) dX4_parseUnit_142 ml_X4_63 mk_X4_take (by first | rfl | assumption) rfl rfl rfl rfl rfl ?_
            rintro _ _ σ4 _ ⟨rfl, rfl, rfl, w1, w2, w3⟩
            refine hv_vret dX4_parseUnit_145 rfl ?_
            first
              | exact ⟨rfl, rfl, rfl, m1, m2, m3⟩
              | exact ⟨rfl, rfl, rfl, off_up (fun _ _ => rfl) (by decide), fun j j1 j2 j3 => by rw [hup_eq, pk_un j3], flt 1 (Or.inl rfl)⟩
              | (refine ⟨rfl, rfl, rfl, off_tr (off_tr r1 t1 (Z := xEx) (by decide) (by decide)) w1 (by decide) (by decide), k7_tr (k7_tr r2 t2) w2, ?_⟩
                 have e2 : ∀ j, j ≠ 5 → σ2 58 j = σ 58 j := fun j _ => by rw [r1 58 (by decide)]
                 rcases r5 with e | ⟨a', c'⟩
                 · exact ⟨w3, pLg_of (pLg_tr e2 t9) (w1 58 (by decide))⟩
                 · obtain ⟨u1, u2⟩ := t9
                   have hw : pSt f n (tk (kd f n) 35 a') σ4 := w3
                   have hlw : pLw sz c' σ σ4 := pLw_of (pLw_tr (c := []) (pLw_0 z1 (r1 58 (by decide)) (r1 59 (by decide)) (r1 60 (by decide))) u1) (w1 58 (by decide)) (w1 59 (by decide)) (w1 60 (by decide))
                   show pEx f n sz (bd (tk (kd f n) 35 a') (fun a'' _ => .inr (a'', c'))) σ σ4
                   have ha' : a' ≤ 400 := t3.2.2.2.1
                   rcases hr6 : tk (kd f n) 35 a' with e | ⟨a'', u'⟩
                   · rw [hr6] at hw
                     exact ⟨hw, pLw_lg hlw (by omega)⟩
                   · rw [hr6] at hw
                     have ha2 := (tk_r hr6).2.2
                     exact ⟨by cases u'; exact hw, hlw, by omega⟩)
          · have ho : ¬ kd f n a = 34 := fun q => c_99 (by rw [q]; rfl)
            rw [if_neg ho]
            refine hv_aload_n dX4_parseUnit_102 rfl ?_
            refine hv_iconst (v := 1) dX4_parseUnit_103 (by decide) ?_
            refine hv_cv1 (c_pfail) dX4_parseUnit_104 ml_X4_60 mk_X4_fail (by first | rfl | assumption) rfl rfl rfl rfl rfl ?_
            rintro _ _ _ _ ⟨rfl, rfl, rfl, rfl⟩
            rw [if_pos h1]
            refine hv_goto (tgt := 145) dX4_parseUnit_107 (by decide) ?_
            refine hv_vret dX4_parseUnit_145 rfl ?_
            first
              | exact ⟨rfl, rfl, rfl, m1, m2, m3⟩
              | exact ⟨rfl, rfl, rfl, off_up (fun _ _ => rfl) (by decide), fun j j1 j2 j3 => by rw [hup_eq, pk_un j3], flt 1 (Or.inl rfl)⟩
              | (refine ⟨rfl, rfl, rfl, off_tr (off_tr r1 t1 (Z := xEx) (by decide) (by decide)) w1 (by decide) (by decide), k7_tr (k7_tr r2 t2) w2, ?_⟩
                 have e2 : ∀ j, j ≠ 5 → σ2 58 j = σ 58 j := fun j _ => by rw [r1 58 (by decide)]
                 rcases r5 with e | ⟨a', c'⟩
                 · exact ⟨w3, pLg_of (pLg_tr e2 t9) (w1 58 (by decide))⟩
                 · obtain ⟨u1, u2⟩ := t9
                   have hw : pSt f n (tk (kd f n) 35 a') σ4 := w3
                   have hlw : pLw sz c' σ σ4 := pLw_of (pLw_tr (c := []) (pLw_0 z1 (r1 58 (by decide)) (r1 59 (by decide)) (r1 60 (by decide))) u1) (w1 58 (by decide)) (w1 59 (by decide)) (w1 60 (by decide))
                   show pEx f n sz (bd (tk (kd f n) 35 a') (fun a'' _ => .inr (a'', c'))) σ σ4
                   have ha' : a' ≤ 400 := t3.2.2.2.1
                   rcases hr6 : tk (kd f n) 35 a' with e | ⟨a'', u'⟩
                   · rw [hr6] at hw
                     exact ⟨hw, pLw_lg hlw (by omega)⟩
                   · rw [hr6] at hw
                     have ha2 := (tk_r hr6).2.2
                     exact ⟨by cases u'; exact hw, hlw, by omega⟩)
        · have hv : 14 ≤ kd f n a ∧ kd f n a ≤ 22 := ⟨(nI_leI (a := 14) (by decide) (by omega)).mp (Int32.not_lt.mp c_54), (nI_leI (b := 22) (by omega) (by decide)).mp (Int32.not_lt.mp c_63)⟩
          rw [if_pos hv]
          refine hv_aload_n dX4_parseUnit_66 rfl ?_
          refine hv_getr dX4_parseUnit_67 fl_X4_15 (by first | rfl | assumption) rfl (by first | rfl | assumption) ?_
          refine hv_iconst (v := 1) dX4_parseUnit_70 (by decide) ?_
          refine hv_aload_n dX4_parseUnit_71 rfl ?_
          refine hv_geti dX4_parseUnit_72 fl_X4_29 (by first | rfl | assumption) rfl ?_
          refine hv_bipush (v := 14) dX4_parseUnit_75 (by decide) ?_
          rw [h3]
          refine hv_isub dX4_parseUnit_77 ?_
          rw [show nI (kd f n a) - 14 = nI (kd f n a - 14) from pk_sub (b := 14) hv.1]
          refine hv_cv2 (c_lput z1 z2) dX4_parseUnit_78 ml_X4_80 mk_X1_put (by first | rfl | assumption) rfl rfl rfl rfl rfl ?_
          rintro _ _ σ1 _ ⟨rfl, rfl, rfl, q1, q2⟩
          obtain ⟨l1, l2, l3⟩ := leaf _ _ σ1 q1 q2
          refine hv_pop dX4_parseUnit_81 rfl ?_
          refine hv_aload_n dX4_parseUnit_82 rfl ?_
          refine hv_aload_n dX4_parseUnit_83 rfl ?_
          refine hv_geti dX4_parseUnit_84 fl_X4_29 (by first | rfl | assumption) rfl ?_
          refine hv_cv1 (c_pass l1 l2 (fun b w q => by cases q; omega)) dX4_parseUnit_87 ml_X4_63 mk_X4_take (by first | rfl | assumption) rfl rfl rfl rfl rfl ?_
          rintro _ _ σ2 _ ⟨rfl, rfl, rfl, r1, r2, r3⟩
          obtain ⟨m1, m2, m3⟩ := l3 σ2 r1 r2 r3
          refine hv_goto (tgt := 145) dX4_parseUnit_90 (by decide) ?_
          refine hv_vret dX4_parseUnit_145 rfl ?_
          first
            | exact ⟨rfl, rfl, rfl, m1, m2, m3⟩
            | exact ⟨rfl, rfl, rfl, off_up (fun _ _ => rfl) (by decide), fun j j1 j2 j3 => by rw [hup_eq, pk_un j3], flt 1 (Or.inl rfl)⟩
            | (refine ⟨rfl, rfl, rfl, off_tr (off_tr r1 t1 (Z := xEx) (by decide) (by decide)) w1 (by decide) (by decide), k7_tr (k7_tr r2 t2) w2, ?_⟩
               have e2 : ∀ j, j ≠ 5 → σ2 58 j = σ 58 j := fun j _ => by rw [r1 58 (by decide)]
               rcases r5 with e | ⟨a', c'⟩
               · exact ⟨w3, pLg_of (pLg_tr e2 t9) (w1 58 (by decide))⟩
               · obtain ⟨u1, u2⟩ := t9
                 have hw : pSt f n (tk (kd f n) 35 a') σ4 := w3
                 have hlw : pLw sz c' σ σ4 := pLw_of (pLw_tr (c := []) (pLw_0 z1 (r1 58 (by decide)) (r1 59 (by decide)) (r1 60 (by decide))) u1) (w1 58 (by decide)) (w1 59 (by decide)) (w1 60 (by decide))
                 show pEx f n sz (bd (tk (kd f n) 35 a') (fun a'' _ => .inr (a'', c'))) σ σ4
                 have ha' : a' ≤ 400 := t3.2.2.2.1
                 rcases hr6 : tk (kd f n) 35 a' with e | ⟨a'', u'⟩
                 · rw [hr6] at hw
                   exact ⟨hw, pLw_lg hlw (by omega)⟩
                 · rw [hr6] at hw
                   have ha2 := (tk_r hr6).2.2
                   exact ⟨by cases u'; exact hw, hlw, by omega⟩)
    · have hk : kd f n a = 24 := (nI_eq (b := 24) (by omega) (by decide)).mp c_14
      rw [if_pos hk]
      refine hv_aload_n dX4_parseUnit_17 rfl ?_
      refine hv_getr dX4_parseUnit_18 fl_X4_15 (by first | rfl | assumption) rfl (by first | rfl | assumption) ?_
      refine hv_iconst (v := 0) dX4_parseUnit_21 (by decide) ?_
      refine hv_aload_n dX4_parseUnit_22 rfl ?_
      refine hv_getr dX4_parseUnit_23 fl_X4_9 (by first | rfl | assumption) rfl (by first | rfl | assumption) ?_
      refine hv_aload_n dX4_parseUnit_26 rfl ?_
      refine hv_geti dX4_parseUnit_27 fl_X4_19 (by first | rfl | assumption) rfl ?_
      rw [h2]
      refine hv_cv1 (c_tvalue ht h4) dX4_parseUnit_30 ml_X4_97 mk_X9_value (by first | rfl | assumption) rfl rfl rfl rfl rfl ?_
      rintro _ _ _ _ ⟨rfl, rfl, rfl, rfl⟩
      refine hv_cv2 (c_lput z1 z2) dX4_parseUnit_33 ml_X4_80 mk_X1_put (by first | rfl | assumption) rfl rfl rfl rfl rfl ?_
      rintro _ _ σ1 _ ⟨rfl, rfl, rfl, q1, q2⟩
      obtain ⟨l1, l2, l3⟩ := leaf _ _ σ1 q1 q2
      refine hv_pop dX4_parseUnit_36 rfl ?_
      refine hv_aload_n dX4_parseUnit_37 rfl ?_
      refine hv_aload_n dX4_parseUnit_38 rfl ?_
      refine hv_geti dX4_parseUnit_39 fl_X4_29 (by first | rfl | assumption) rfl ?_
      refine hv_cv1 (c_pass l1 l2 (fun b w q => by cases q; rw [hk]; decide)) dX4_parseUnit_42 ml_X4_63 mk_X4_take (by first | rfl | assumption) rfl rfl rfl rfl rfl ?_
      rintro _ _ σ2 _ ⟨rfl, rfl, rfl, r1, r2, r3⟩
      obtain ⟨m1, m2, m3⟩ := l3 σ2 r1 r2 r3
      refine hv_goto (tgt := 145) dX4_parseUnit_45 (by decide) ?_
      refine hv_vret dX4_parseUnit_145 rfl ?_
      first
        | exact ⟨rfl, rfl, rfl, m1, m2, m3⟩
        | exact ⟨rfl, rfl, rfl, off_up (fun _ _ => rfl) (by decide), fun j j1 j2 j3 => by rw [hup_eq, pk_un j3], flt 1 (Or.inl rfl)⟩
        | (refine ⟨rfl, rfl, rfl, off_tr (off_tr r1 t1 (Z := xEx) (by decide) (by decide)) w1 (by decide) (by decide), k7_tr (k7_tr r2 t2) w2, ?_⟩
           have e2 : ∀ j, j ≠ 5 → σ2 58 j = σ 58 j := fun j _ => by rw [r1 58 (by decide)]
           rcases r5 with e | ⟨a', c'⟩
           · exact ⟨w3, pLg_of (pLg_tr e2 t9) (w1 58 (by decide))⟩
           · obtain ⟨u1, u2⟩ := t9
             have hw : pSt f n (tk (kd f n) 35 a') σ4 := w3
             have hlw : pLw sz c' σ σ4 := pLw_of (pLw_tr (c := []) (pLw_0 z1 (r1 58 (by decide)) (r1 59 (by decide)) (r1 60 (by decide))) u1) (w1 58 (by decide)) (w1 59 (by decide)) (w1 60 (by decide))
             show pEx f n sz (bd (tk (kd f n) 35 a') (fun a'' _ => .inr (a'', c'))) σ σ4
             have ha' : a' ≤ 400 := t3.2.2.2.1
             rcases hr6 : tk (kd f n) 35 a' with e | ⟨a'', u'⟩
             · rw [hr6] at hw
               exact ⟨hw, pLw_lg hlw (by omega)⟩
             · rw [hr6] at hw
               have ha2 := (tk_r hr6).2.2
               exact ⟨by cases u'; exact hw, hlw, by omega⟩)
set_option maxRecDepth 100000 in
theorem c_parseProduct_1 {f : hF} {n sz : Nat} {s : hPR Unit} (ht : tokC f n σ) (hs : pSt f n s σ) (hz : szOk sz s σ) : hCal G (m_parseProduct_1 (hQp xEx none (rr 38 51 (some 58) y) σ τ (fun σ' => k7 σ σ' ∧ pEx f n sz (bd s (fun a _ => prodX (kd f n) (uX (kd f n) (vl f n) 5) a)) σ σ'))) [.ref (hgA G 7), .int (nI 1)] shp (rr 38 51 (some 58) y) σ τ := by
  refine hv_enter pn_X4 rfl ?_
  obtain ⟨U, hU⟩ : ∃ U : Nat → hPR hCd, uX (kd f n) (vl f n) 5 = U := ⟨_, rfl⟩
  have hUo : ∀ at', at' ≤ 400 → okG (kd f n) at' (fun a c => at' < a ∧ c.length ≤ a - at') (U at') := fun at' h => by
    rw [← hU]
    exact okG_mono _ (uX_ok (kd f n) (vl f n) 5 at' h) (fun a c _ _ q => ⟨q.1, q.2.2.1⟩)
  have call : ∀ {s2 : hPR Unit} {σ2 : hS} {sz2 : Nat}, tokC f n σ2 → pSt f n s2 σ2 → szOk sz2 s2 σ2 → hCal G (m_parseUnit_1 (hQp xEx none (rr 38 51 (some 58) y) σ2 τ (fun σ' => k7 σ2 σ' ∧ pEx f n sz2 (bd s2 (fun a _ => U a)) σ2 σ'))) [.ref (hgA G 7), .int (nI 1)] shp (rr 38 51 (some 58) y) σ2 τ := fun h1 h2 h3 => by
    rw [← hU]; exact c_parseUnit_1 h1 h2 h3
  rw [show (fun a (_ : Unit) => prodX (kd f n) (uX (kd f n) (vl f n) 5) a) = (fun a _ => bd (U a) (fun a c => prodL (kd f n) U 401 a c)) from by rw [← hU]; rfl]
  have loop : ∀ k i r res (σ1 : hS) (l3 : Option Value), i + k = 401 → (l3 = none ∨ ∃ z, l3 = some (.int z)) → (∀ c, c ∉ xEx → σ1 c = σ c) → k7 σ σ1 → pEx f n sz r σ σ1 → bd r (fun a c => prodL (kd f n) U k a c) = res → hV G (m_parseProduct_1 (hQp xEx none (rr 38 51 (some 58) y) σ τ (fun σ' => k7 σ σ' ∧ pEx f n sz res σ σ'))) 0 0 shp 7 [some (.ref (hgA G 7)), some (.int (nI 1)), some (.int (nI i)), l3] [] (rr 38 51 (some 58) y) σ1 τ := by
    intro k
    induction k with
    | zero =>
      intro i r res σ1 l3 hi hl3 hσ hk hp hr
      obtain rfl : i = 401 := by omega
      have hrr : r = res := by rw [← hr]; rcases r with e | ⟨a, c⟩ <;> rfl
      refine hv_iload_n dX4_parseProduct_7 rfl ?_
      refine hv_sipush (v := 400) dX4_parseProduct_8 (by decide) ?_
      refine hv_icmp_gt (tgt := 76) dX4_parseProduct_11 (by decide) (fun c_11 => ?_) (fun c_11 => absurd ((by decide)) c_11)
      refine hv_vret dX4_parseProduct_76 rfl ?_
      rw [← hrr]; exact ⟨rfl, rfl, rfl, hσ, hk, hp⟩
    | succ k ih =>
      intro i r res σ1 l3 hi hl3 hσ hk hp hr
      rcases r with ⟨z, t⟩ | ⟨a, c⟩
      · have hp2 := hp.1
        have h1 := hp2.1
        have hne : ¬ σ1 7 7 = 0 := by rw [h1]; exact nI_ne0 (by have := hp2.2.1; omega) (by have := hp2.2.1; omega)
        refine hv_iload_n dX4_parseProduct_7 rfl ?_
        refine hv_sipush (v := 400) dX4_parseProduct_8 (by decide) ?_
        refine hv_icmp_gt (tgt := 76) dX4_parseProduct_11 (by decide) (fun c_11 => absurd c_11 ((nI_nlt (a := 400) (by omega) (by decide)))) (fun c_11 => ?_)
        refine hv_aload_n dX4_parseProduct_14 rfl ?_
        refine hv_geti dX4_parseProduct_15 fl_X4_41 (by first | rfl | assumption) rfl ?_
        refine hv_if_ne (tgt := 76) dX4_parseProduct_18 (by decide) (fun c_18 => ?_) (fun c_18 => absurd c_18 (hne))
        refine hv_vret dX4_parseProduct_76 rfl ?_
        rw [← hr]; exact ⟨rfl, rfl, rfl, hσ, hk, hp⟩
      · obtain ⟨hp2, hp3, hp4⟩ := hp
        have h1 := hp2.1
        have h3 := hp2.2.2.1
        have ha4 := hp2.2.2.2.1
        have hkl := kd_le f n a
        have tk1 : tokC f n σ1 := tokC_of ht hσ rfl
        rw [show bd (Sum.inr (a, c) : hPR hCd) (fun a c => prodL (kd f n) U (k + 1) a c) = _ from prodL_s (kd f n) U k a c] at hr
        obtain ⟨o, ho⟩ : ∃ o : Int32, (if kd f n a = 31 then 4 else 5 : Int32) = o := ⟨_, rfl⟩
        rw [ho] at hr
        have go : ∀ (l3 : Option Value), (l3 = none ∨ ∃ z, l3 = some (.int z)) → (kd f n a = 31 ∨ kd f n a = 32) → bd (pass a) (fun a1 _ => bd (U a1) (fun a' c' => prodL (kd f n) U k a' (c ++ c' ++ [(o, 0)]))) = res → hV G (m_parseProduct_1 (hQp xEx none (rr 38 51 (some 58) y) σ τ (fun σ' => k7 σ σ' ∧ pEx f n sz res σ σ'))) 0 0 shp 47 [some (.ref (hgA G 7)), some (.int (nI 1)), some (.int (nI i)), some (.int o)] [] (rr 38 51 (some 58) y) σ1 τ := by
          intro l3 hl3 hop hr
          refine hv_aload_n dX4_parseProduct_47 rfl ?_
          refine hv_aload_n dX4_parseProduct_48 rfl ?_
          refine hv_geti dX4_parseProduct_49 fl_X4_29 (by first | rfl | assumption) rfl ?_
          refine hv_cv1 (c_pass tk1 hp2 (fun b w q => by cases q; omega)) dX4_parseProduct_52 ml_X4_63 mk_X4_take (by first | rfl | assumption) rfl rfl rfl rfl rfl ?_
          rintro _ _ σ2 _ ⟨rfl, rfl, rfl, r1, r2, r3⟩
          have r4 : pSt f n (pass a) σ2 := r3
          have hlw2 : pLw sz c σ σ2 := pLw_of hp3 (r1 58 (by decide)) (r1 59 (by decide)) (r1 60 (by decide))
          have hz2 : szOk (sz + c.length) (pass a) σ2 := ⟨hlw2.2.1, by omega, fun b w q => by have := pass_r q; omega⟩
          have tk2 : tokC f n σ2 := tokC_of tk1 r1 rfl
          refine hv_aload_n dX4_parseProduct_55 rfl ?_
          refine hv_iload_n dX4_parseProduct_56 rfl ?_
          refine hv_cv1 (call tk2 r4 hz2) dX4_parseProduct_57 ml_X4_94 mk_X4_parseUnit (by first | rfl | assumption) rfl rfl rfl rfl rfl ?_
          rintro _ _ σ3 _ ⟨rfl, rfl, rfl, t1, t2, t3, t9⟩
          have hso : okG (kd f n) a (fun a' c' => a + 1 < a' ∧ c'.length ≤ a' - (a + 1)) (bd (pass a) (fun a _ => U a)) := okG_bd _ (okG_pass _ ha4 (by omega)) (fun a1 _ _ a4 ea => by subst ea; exact hUo (a + 1) a4)
          rw [← bd_assoc] at hr
          obtain ⟨r5, hr5⟩ : ∃ r5, bd (pass a) (fun a _ => U a) = r5 := ⟨_, rfl⟩
          rw [hr5] at t3 t9 hso hr
          obtain ⟨z, hzz, hz4, hz6⟩ : ∃ z, σ3 58 5 = nI z ∧ z ≤ 410 ∧ ∀ a' c', r5 = .inr (a', c') → z = sz + c.length + c'.length ∧ z + 1 ≤ 10 + a' := by
            rcases r5 with e | ⟨a', c'⟩
            · obtain ⟨z, q1, q2⟩ := t9.2
              exact ⟨z, q2, q1, fun _ _ q => nomatch q⟩
            · have h9 := hso.2.2.2
              have h8 := hso.2.1
              exact ⟨sz + c.length + c'.length, t9.1.2.1, by omega, fun _ _ q => by cases q; exact ⟨rfl, by omega⟩⟩
          refine hv_aload_n dX4_parseProduct_60 rfl ?_
          refine hv_getr dX4_parseProduct_61 fl_X4_15 (by first | rfl | assumption) rfl (by first | rfl | assumption) ?_
          refine hv_iload_n dX4_parseProduct_64 rfl ?_
          refine hv_iconst (v := 0) dX4_parseProduct_65 (by decide) ?_
          refine hv_cv2 (c_lput hzz hz4) dX4_parseProduct_66 ml_X4_80 mk_X1_put (by first | rfl | assumption) rfl rfl rfl rfl rfl ?_
          rintro _ _ σ4 _ ⟨rfl, rfl, rfl, w1, w2⟩
          refine hv_pop dX4_parseProduct_69 rfl ?_
          refine hv_iinc dX4_parseProduct_70 rfl (nI_1 i) rfl rfl ?_
          refine hv_goto (tgt := 7) dX4_parseProduct_73 (by decide) ?_
          refine ih (i + 1) (bd r5 (fun a' c' => .inr (a', c ++ c' ++ [(o, 0)]))) res σ4 _ (by omega) (Or.inr ⟨_, rfl⟩) (off_tr (off_tr (off_tr hσ r1 (Z := xEx) (by decide) (by decide)) t1 (Z := xEx) (by decide) (by decide)) w1 (by decide) (by decide)) (k7_tr (k7_tr (k7_tr hk r2) t2) (fun j _ _ _ => by rw [w1 7 (by decide)])) ?_ (by rw [bd_assoc]; exact hr)
          rcases r5 with e | ⟨a', c'⟩
          · exact ⟨pSt_of t3 (w1 7 (by decide)), pLg_tr (fun j hj => (t9.1 j hj).trans (hlw2.1 j hj)) (pLg_p hzz hz4 w2)⟩
          · obtain ⟨e1, e2⟩ := hz6 a' c' rfl
            have h8 := hso.2.1
            subst e1
            exact ⟨pSt_of t3 (w1 7 (by decide)), pLw_tr (pLw_tr hlw2 t9.1) (by rw [List.length_append, ← Nat.add_assoc]; exact pLw_p1 (by omega) w2), by rw [List.length_append, List.length_append, List.length_singleton]; omega⟩
        rcases hl3 with rfl | ⟨z, rfl⟩
        · skip
          refine hv_iload_n dX4_parseProduct_7 rfl ?_
          refine hv_sipush (v := 400) dX4_parseProduct_8 (by decide) ?_
          refine hv_icmp_gt (tgt := 76) dX4_parseProduct_11 (by decide) (fun c_11 => absurd c_11 ((nI_nlt (a := 400) (by omega) (by decide)))) (fun c_11 => ?_)
          refine hv_aload_n dX4_parseProduct_14 rfl ?_
          refine hv_geti dX4_parseProduct_15 fl_X4_41 (by first | rfl | assumption) rfl ?_
          refine hv_if_ne (tgt := 76) dX4_parseProduct_18 (by decide) (fun c_18 => absurd (h1) c_18) (fun c_18 => ?_)
          refine hv_aload_n dX4_parseProduct_21 rfl ?_
          refine hv_bipush (v := 31) dX4_parseProduct_22 (by decide) ?_
          refine hv_bipush (v := 32) dX4_parseProduct_24 (by decide) ?_
          refine hv_cv2 (c_isOne) dX4_parseProduct_26 ml_X4_90 mk_X4_isOne (by first | rfl | assumption) rfl rfl rfl rfl rfl ?_
          rintro _ _ _ _ ⟨rfl, rfl, rfl, rfl⟩
          rw [h3]
          refine hv_if_eq (tgt := 76) dX4_parseProduct_29 (by decide) (fun c_29 => ?_) (fun c_29 => ?_)
          · have hop : ¬ (kd f n a = 31 ∨ kd f n a = 32) := fun q => of_decide_eq_false (bI_0 c_29) (by rcases q with q | q; exact Or.inl (by rw [q]; rfl); exact Or.inr (by rw [q]; rfl))
            rw [if_neg hop] at hr
            refine hv_vret dX4_parseProduct_76 rfl ?_
            rw [← hr]; exact ⟨rfl, rfl, rfl, hσ, hk, hp2, hp3, hp4⟩
          · have hop : kd f n a = 31 ∨ kd f n a = 32 := by
              rcases of_decide_eq_true (bI_1 c_29) with q | q
              · exact Or.inl ((nI_eq (b := 31) (by omega) (by decide)).mp q)
              · exact Or.inr ((nI_eq (b := 32) (by omega) (by decide)).mp q)
            rw [if_pos hop] at hr
            refine hv_aload_n dX4_parseProduct_32 rfl ?_
            refine hv_geti dX4_parseProduct_33 fl_X4_29 (by first | rfl | assumption) rfl ?_
            refine hv_bipush (v := 31) dX4_parseProduct_36 (by decide) ?_
            rw [h3]
            refine hv_icmp_ne (tgt := 45) dX4_parseProduct_38 (by decide) (fun c_38 => ?_) (fun c_38 => ?_)
            · rw [if_neg (fun q => c_38 (by rw [q]; rfl))] at ho
              refine hv_iconst (v := 5) dX4_parseProduct_45 (by decide) ?_
              refine hv_str (congrArg (fun z => [Value.int z]) ho) ?_
              refine hv_istore_n dX4_parseProduct_46 rfl rfl ?_
              exact go none (Or.inl rfl) hop hr
            · rw [if_pos ((nI_eq (b := 31) (by omega) (by decide)).mp c_38)] at ho
              refine hv_iconst (v := 4) dX4_parseProduct_41 (by decide) ?_
              refine hv_goto (tgt := 46) dX4_parseProduct_42 (by decide) ?_
              refine hv_str (congrArg (fun z => [Value.int z]) ho) ?_
              refine hv_istore_n dX4_parseProduct_46 rfl rfl ?_
              exact go none (Or.inl rfl) hop hr
        · skip
          refine hv_iload_n dX4_parseProduct_7 rfl ?_
          refine hv_sipush (v := 400) dX4_parseProduct_8 (by decide) ?_
          refine hv_icmp_gt (tgt := 76) dX4_parseProduct_11 (by decide) (fun c_11 => absurd c_11 ((nI_nlt (a := 400) (by omega) (by decide)))) (fun c_11 => ?_)
          refine hv_aload_n dX4_parseProduct_14 rfl ?_
          refine hv_geti dX4_parseProduct_15 fl_X4_41 (by first | rfl | assumption) rfl ?_
          refine hv_if_ne (tgt := 76) dX4_parseProduct_18 (by decide) (fun c_18 => absurd (h1) c_18) (fun c_18 => ?_)
          refine hv_aload_n dX4_parseProduct_21 rfl ?_
          refine hv_bipush (v := 31) dX4_parseProduct_22 (by decide) ?_
          refine hv_bipush (v := 32) dX4_parseProduct_24 (by decide) ?_
          refine hv_cv2 (c_isOne) dX4_parseProduct_26 ml_X4_90 mk_X4_isOne (by first | rfl | assumption) rfl rfl rfl rfl rfl ?_
          rintro _ _ _ _ ⟨rfl, rfl, rfl, rfl⟩
          rw [h3]
          refine hv_if_eq (tgt := 76) dX4_parseProduct_29 (by decide) (fun c_29 => ?_) (fun c_29 => ?_)
          · have hop : ¬ (kd f n a = 31 ∨ kd f n a = 32) := fun q => of_decide_eq_false (bI_0 c_29) (by rcases q with q | q; exact Or.inl (by rw [q]; rfl); exact Or.inr (by rw [q]; rfl))
            rw [if_neg hop] at hr
            refine hv_vret dX4_parseProduct_76 rfl ?_
            rw [← hr]; exact ⟨rfl, rfl, rfl, hσ, hk, hp2, hp3, hp4⟩
          · have hop : kd f n a = 31 ∨ kd f n a = 32 := by
              rcases of_decide_eq_true (bI_1 c_29) with q | q
              · exact Or.inl ((nI_eq (b := 31) (by omega) (by decide)).mp q)
              · exact Or.inr ((nI_eq (b := 32) (by omega) (by decide)).mp q)
            rw [if_pos hop] at hr
            refine hv_aload_n dX4_parseProduct_32 rfl ?_
            refine hv_geti dX4_parseProduct_33 fl_X4_29 (by first | rfl | assumption) rfl ?_
            refine hv_bipush (v := 31) dX4_parseProduct_36 (by decide) ?_
            rw [h3]
            refine hv_icmp_ne (tgt := 45) dX4_parseProduct_38 (by decide) (fun c_38 => ?_) (fun c_38 => ?_)
            · rw [if_neg (fun q => c_38 (by rw [q]; rfl))] at ho
              refine hv_iconst (v := 5) dX4_parseProduct_45 (by decide) ?_
              refine hv_str (congrArg (fun z => [Value.int z]) ho) ?_
              refine hv_istore_n dX4_parseProduct_46 rfl rfl ?_
              exact go none (Or.inl rfl) hop hr
            · rw [if_pos ((nI_eq (b := 31) (by omega) (by decide)).mp c_38)] at ho
              refine hv_iconst (v := 4) dX4_parseProduct_41 (by decide) ?_
              refine hv_goto (tgt := 46) dX4_parseProduct_42 (by decide) ?_
              refine hv_str (congrArg (fun z => [Value.int z]) ho) ?_
              refine hv_istore_n dX4_parseProduct_46 rfl rfl ?_
              exact go none (Or.inl rfl) hop hr
  refine hv_aload_n dX4_parseProduct_0 rfl ?_
  refine hv_iload_n dX4_parseProduct_1 rfl ?_
  refine hv_cv1 (call ht hs hz) dX4_parseProduct_2 ml_X4_94 mk_X4_parseUnit (by first | rfl | assumption) rfl rfl rfl rfl rfl ?_
  rintro _ _ σ1 _ ⟨rfl, rfl, rfl, q1, q2, q3⟩
  refine hv_iconst (v := 0) dX4_parseProduct_5 (by decide) ?_
  refine hv_istore_n dX4_parseProduct_6 rfl rfl ?_
  exact loop 401 0 (bd s (fun a _ => U a)) _ σ1 none (by omega) (Or.inl rfl) q1 q2 q3 (by rw [bd_assoc])
set_option maxRecDepth 100000 in
theorem c_parseSum_1 {f : hF} {n sz : Nat} {s : hPR Unit} (ht : tokC f n σ) (hs : pSt f n s σ) (hz : szOk sz s σ) : hCal G (m_parseSum_1 (hQp xEx none (rr 38 51 (some 58) y) σ τ (fun σ' => k7 σ σ' ∧ pEx f n sz (bd s (fun a _ => sumX (kd f n) (uX (kd f n) (vl f n) 5) a)) σ σ'))) [.ref (hgA G 7), .int (nI 1)] shp (rr 38 51 (some 58) y) σ τ := by
  refine hv_enter pn_X4 rfl ?_
  obtain ⟨U, hU⟩ : ∃ U : Nat → hPR hCd, prodX (kd f n) (uX (kd f n) (vl f n) 5) = U := ⟨_, rfl⟩
  have hUo : ∀ at', at' ≤ 400 → okG (kd f n) at' (fun a c => at' < a ∧ c.length ≤ a - at') (U at') := fun at' h => by
    rw [← hU]
    exact okG_mono _ (prodX_ok (kd f n) (uX_ok (kd f n) (vl f n) 5) at' h) (fun a c _ _ q => ⟨q.1.1, q.1.2.2.1⟩)
  have call : ∀ {s2 : hPR Unit} {σ2 : hS} {sz2 : Nat}, tokC f n σ2 → pSt f n s2 σ2 → szOk sz2 s2 σ2 → hCal G (m_parseProduct_1 (hQp xEx none (rr 38 51 (some 58) y) σ2 τ (fun σ' => k7 σ2 σ' ∧ pEx f n sz2 (bd s2 (fun a _ => U a)) σ2 σ'))) [.ref (hgA G 7), .int (nI 1)] shp (rr 38 51 (some 58) y) σ2 τ := fun h1 h2 h3 => by
    rw [← hU]; exact c_parseProduct_1 h1 h2 h3
  rw [show (fun a (_ : Unit) => sumX (kd f n) (uX (kd f n) (vl f n) 5) a) = (fun a _ => bd (U a) (fun a c => sumL (kd f n) U 401 a c)) from by rw [← hU]; rfl]
  have loop : ∀ k i r res (σ1 : hS) (l3 : Option Value), i + k = 401 → (l3 = none ∨ ∃ z, l3 = some (.int z)) → (∀ c, c ∉ xEx → σ1 c = σ c) → k7 σ σ1 → pEx f n sz r σ σ1 → bd r (fun a c => sumL (kd f n) U k a c) = res → hV G (m_parseSum_1 (hQp xEx none (rr 38 51 (some 58) y) σ τ (fun σ' => k7 σ σ' ∧ pEx f n sz res σ σ'))) 0 0 shp 7 [some (.ref (hgA G 7)), some (.int (nI 1)), some (.int (nI i)), l3] [] (rr 38 51 (some 58) y) σ1 τ := by
    intro k
    induction k with
    | zero =>
      intro i r res σ1 l3 hi hl3 hσ hk hp hr
      obtain rfl : i = 401 := by omega
      have hrr : r = res := by rw [← hr]; rcases r with e | ⟨a, c⟩ <;> rfl
      refine hv_iload_n dX4_parseSum_7 rfl ?_
      refine hv_sipush (v := 400) dX4_parseSum_8 (by decide) ?_
      refine hv_icmp_gt (tgt := 76) dX4_parseSum_11 (by decide) (fun c_11 => ?_) (fun c_11 => absurd ((by decide)) c_11)
      refine hv_vret dX4_parseSum_76 rfl ?_
      rw [← hrr]; exact ⟨rfl, rfl, rfl, hσ, hk, hp⟩
    | succ k ih =>
      intro i r res σ1 l3 hi hl3 hσ hk hp hr
      rcases r with ⟨z, t⟩ | ⟨a, c⟩
      · have hp2 := hp.1
        have h1 := hp2.1
        have hne : ¬ σ1 7 7 = 0 := by rw [h1]; exact nI_ne0 (by have := hp2.2.1; omega) (by have := hp2.2.1; omega)
        refine hv_iload_n dX4_parseSum_7 rfl ?_
        refine hv_sipush (v := 400) dX4_parseSum_8 (by decide) ?_
        refine hv_icmp_gt (tgt := 76) dX4_parseSum_11 (by decide) (fun c_11 => absurd c_11 ((nI_nlt (a := 400) (by omega) (by decide)))) (fun c_11 => ?_)
        refine hv_aload_n dX4_parseSum_14 rfl ?_
        refine hv_geti dX4_parseSum_15 fl_X4_41 (by first | rfl | assumption) rfl ?_
        refine hv_if_ne (tgt := 76) dX4_parseSum_18 (by decide) (fun c_18 => ?_) (fun c_18 => absurd c_18 (hne))
        refine hv_vret dX4_parseSum_76 rfl ?_
        rw [← hr]; exact ⟨rfl, rfl, rfl, hσ, hk, hp⟩
      · obtain ⟨hp2, hp3, hp4⟩ := hp
        have h1 := hp2.1
        have h3 := hp2.2.2.1
        have ha4 := hp2.2.2.2.1
        have hkl := kd_le f n a
        have tk1 : tokC f n σ1 := tokC_of ht hσ rfl
        rw [show bd (Sum.inr (a, c) : hPR hCd) (fun a c => sumL (kd f n) U (k + 1) a c) = _ from sumL_s (kd f n) U k a c] at hr
        obtain ⟨o, ho⟩ : ∃ o : Int32, (if kd f n a = 29 then 2 else 3 : Int32) = o := ⟨_, rfl⟩
        rw [ho] at hr
        have go : ∀ (l3 : Option Value), (l3 = none ∨ ∃ z, l3 = some (.int z)) → (kd f n a = 29 ∨ kd f n a = 30) → bd (pass a) (fun a1 _ => bd (U a1) (fun a' c' => sumL (kd f n) U k a' (c ++ c' ++ [(o, 0)]))) = res → hV G (m_parseSum_1 (hQp xEx none (rr 38 51 (some 58) y) σ τ (fun σ' => k7 σ σ' ∧ pEx f n sz res σ σ'))) 0 0 shp 47 [some (.ref (hgA G 7)), some (.int (nI 1)), some (.int (nI i)), some (.int o)] [] (rr 38 51 (some 58) y) σ1 τ := by
          intro l3 hl3 hop hr
          refine hv_aload_n dX4_parseSum_47 rfl ?_
          refine hv_aload_n dX4_parseSum_48 rfl ?_
          refine hv_geti dX4_parseSum_49 fl_X4_29 (by first | rfl | assumption) rfl ?_
          refine hv_cv1 (c_pass tk1 hp2 (fun b w q => by cases q; omega)) dX4_parseSum_52 ml_X4_63 mk_X4_take (by first | rfl | assumption) rfl rfl rfl rfl rfl ?_
          rintro _ _ σ2 _ ⟨rfl, rfl, rfl, r1, r2, r3⟩
          have r4 : pSt f n (pass a) σ2 := r3
          have hlw2 : pLw sz c σ σ2 := pLw_of hp3 (r1 58 (by decide)) (r1 59 (by decide)) (r1 60 (by decide))
          have hz2 : szOk (sz + c.length) (pass a) σ2 := ⟨hlw2.2.1, by omega, fun b w q => by have := pass_r q; omega⟩
          have tk2 : tokC f n σ2 := tokC_of tk1 r1 rfl
          refine hv_aload_n dX4_parseSum_55 rfl ?_
          refine hv_iload_n dX4_parseSum_56 rfl ?_
          refine hv_cv1 (call tk2 r4 hz2) dX4_parseSum_57 ml_X4_87 mk_X4_parseProduct (by first | rfl | assumption) rfl rfl rfl rfl rfl ?_
          rintro _ _ σ3 _ ⟨rfl, rfl, rfl, t1, t2, t3, t9⟩
          have hso : okG (kd f n) a (fun a' c' => a + 1 < a' ∧ c'.length ≤ a' - (a + 1)) (bd (pass a) (fun a _ => U a)) := okG_bd _ (okG_pass _ ha4 (by omega)) (fun a1 _ _ a4 ea => by subst ea; exact hUo (a + 1) a4)
          rw [← bd_assoc] at hr
          obtain ⟨r5, hr5⟩ : ∃ r5, bd (pass a) (fun a _ => U a) = r5 := ⟨_, rfl⟩
          rw [hr5] at t3 t9 hso hr
          obtain ⟨z, hzz, hz4, hz6⟩ : ∃ z, σ3 58 5 = nI z ∧ z ≤ 410 ∧ ∀ a' c', r5 = .inr (a', c') → z = sz + c.length + c'.length ∧ z + 1 ≤ 10 + a' := by
            rcases r5 with e | ⟨a', c'⟩
            · obtain ⟨z, q1, q2⟩ := t9.2
              exact ⟨z, q2, q1, fun _ _ q => nomatch q⟩
            · have h9 := hso.2.2.2
              have h8 := hso.2.1
              exact ⟨sz + c.length + c'.length, t9.1.2.1, by omega, fun _ _ q => by cases q; exact ⟨rfl, by omega⟩⟩
          refine hv_aload_n dX4_parseSum_60 rfl ?_
          refine hv_getr dX4_parseSum_61 fl_X4_15 (by first | rfl | assumption) rfl (by first | rfl | assumption) ?_
          refine hv_iload_n dX4_parseSum_64 rfl ?_
          refine hv_iconst (v := 0) dX4_parseSum_65 (by decide) ?_
          refine hv_cv2 (c_lput hzz hz4) dX4_parseSum_66 ml_X4_80 mk_X1_put (by first | rfl | assumption) rfl rfl rfl rfl rfl ?_
          rintro _ _ σ4 _ ⟨rfl, rfl, rfl, w1, w2⟩
          refine hv_pop dX4_parseSum_69 rfl ?_
          refine hv_iinc dX4_parseSum_70 rfl (nI_1 i) rfl rfl ?_
          refine hv_goto (tgt := 7) dX4_parseSum_73 (by decide) ?_
          refine ih (i + 1) (bd r5 (fun a' c' => .inr (a', c ++ c' ++ [(o, 0)]))) res σ4 _ (by omega) (Or.inr ⟨_, rfl⟩) (off_tr (off_tr (off_tr hσ r1 (Z := xEx) (by decide) (by decide)) t1 (Z := xEx) (by decide) (by decide)) w1 (by decide) (by decide)) (k7_tr (k7_tr (k7_tr hk r2) t2) (fun j _ _ _ => by rw [w1 7 (by decide)])) ?_ (by rw [bd_assoc]; exact hr)
          rcases r5 with e | ⟨a', c'⟩
          · exact ⟨pSt_of t3 (w1 7 (by decide)), pLg_tr (fun j hj => (t9.1 j hj).trans (hlw2.1 j hj)) (pLg_p hzz hz4 w2)⟩
          · obtain ⟨e1, e2⟩ := hz6 a' c' rfl
            have h8 := hso.2.1
            subst e1
            exact ⟨pSt_of t3 (w1 7 (by decide)), pLw_tr (pLw_tr hlw2 t9.1) (by rw [List.length_append, ← Nat.add_assoc]; exact pLw_p1 (by omega) w2), by rw [List.length_append, List.length_append, List.length_singleton]; omega⟩
        rcases hl3 with rfl | ⟨z, rfl⟩
        · skip
          refine hv_iload_n dX4_parseSum_7 rfl ?_
          refine hv_sipush (v := 400) dX4_parseSum_8 (by decide) ?_
          refine hv_icmp_gt (tgt := 76) dX4_parseSum_11 (by decide) (fun c_11 => absurd c_11 ((nI_nlt (a := 400) (by omega) (by decide)))) (fun c_11 => ?_)
          refine hv_aload_n dX4_parseSum_14 rfl ?_
          refine hv_geti dX4_parseSum_15 fl_X4_41 (by first | rfl | assumption) rfl ?_
          refine hv_if_ne (tgt := 76) dX4_parseSum_18 (by decide) (fun c_18 => absurd (h1) c_18) (fun c_18 => ?_)
          refine hv_aload_n dX4_parseSum_21 rfl ?_
          refine hv_bipush (v := 29) dX4_parseSum_22 (by decide) ?_
          refine hv_bipush (v := 30) dX4_parseSum_24 (by decide) ?_
          refine hv_cv2 (c_isOne) dX4_parseSum_26 ml_X4_90 mk_X4_isOne (by first | rfl | assumption) rfl rfl rfl rfl rfl ?_
          rintro _ _ _ _ ⟨rfl, rfl, rfl, rfl⟩
          rw [h3]
          refine hv_if_eq (tgt := 76) dX4_parseSum_29 (by decide) (fun c_29 => ?_) (fun c_29 => ?_)
          · have hop : ¬ (kd f n a = 29 ∨ kd f n a = 30) := fun q => of_decide_eq_false (bI_0 c_29) (by rcases q with q | q; exact Or.inl (by rw [q]; rfl); exact Or.inr (by rw [q]; rfl))
            rw [if_neg hop] at hr
            refine hv_vret dX4_parseSum_76 rfl ?_
            rw [← hr]; exact ⟨rfl, rfl, rfl, hσ, hk, hp2, hp3, hp4⟩
          · have hop : kd f n a = 29 ∨ kd f n a = 30 := by
              rcases of_decide_eq_true (bI_1 c_29) with q | q
              · exact Or.inl ((nI_eq (b := 29) (by omega) (by decide)).mp q)
              · exact Or.inr ((nI_eq (b := 30) (by omega) (by decide)).mp q)
            rw [if_pos hop] at hr
            refine hv_aload_n dX4_parseSum_32 rfl ?_
            refine hv_geti dX4_parseSum_33 fl_X4_29 (by first | rfl | assumption) rfl ?_
            refine hv_bipush (v := 29) dX4_parseSum_36 (by decide) ?_
            rw [h3]
            refine hv_icmp_ne (tgt := 45) dX4_parseSum_38 (by decide) (fun c_38 => ?_) (fun c_38 => ?_)
            · rw [if_neg (fun q => c_38 (by rw [q]; rfl))] at ho
              refine hv_iconst (v := 3) dX4_parseSum_45 (by decide) ?_
              refine hv_str (congrArg (fun z => [Value.int z]) ho) ?_
              refine hv_istore_n dX4_parseSum_46 rfl rfl ?_
              exact go none (Or.inl rfl) hop hr
            · rw [if_pos ((nI_eq (b := 29) (by omega) (by decide)).mp c_38)] at ho
              refine hv_iconst (v := 2) dX4_parseSum_41 (by decide) ?_
              refine hv_goto (tgt := 46) dX4_parseSum_42 (by decide) ?_
              refine hv_str (congrArg (fun z => [Value.int z]) ho) ?_
              refine hv_istore_n dX4_parseSum_46 rfl rfl ?_
              exact go none (Or.inl rfl) hop hr
        · skip
          refine hv_iload_n dX4_parseSum_7 rfl ?_
          refine hv_sipush (v := 400) dX4_parseSum_8 (by decide) ?_
          refine hv_icmp_gt (tgt := 76) dX4_parseSum_11 (by decide) (fun c_11 => absurd c_11 ((nI_nlt (a := 400) (by omega) (by decide)))) (fun c_11 => ?_)
          refine hv_aload_n dX4_parseSum_14 rfl ?_
          refine hv_geti dX4_parseSum_15 fl_X4_41 (by first | rfl | assumption) rfl ?_
          refine hv_if_ne (tgt := 76) dX4_parseSum_18 (by decide) (fun c_18 => absurd (h1) c_18) (fun c_18 => ?_)
          refine hv_aload_n dX4_parseSum_21 rfl ?_
          refine hv_bipush (v := 29) dX4_parseSum_22 (by decide) ?_
          refine hv_bipush (v := 30) dX4_parseSum_24 (by decide) ?_
          refine hv_cv2 (c_isOne) dX4_parseSum_26 ml_X4_90 mk_X4_isOne (by first | rfl | assumption) rfl rfl rfl rfl rfl ?_
          rintro _ _ _ _ ⟨rfl, rfl, rfl, rfl⟩
          rw [h3]
          refine hv_if_eq (tgt := 76) dX4_parseSum_29 (by decide) (fun c_29 => ?_) (fun c_29 => ?_)
          · have hop : ¬ (kd f n a = 29 ∨ kd f n a = 30) := fun q => of_decide_eq_false (bI_0 c_29) (by rcases q with q | q; exact Or.inl (by rw [q]; rfl); exact Or.inr (by rw [q]; rfl))
            rw [if_neg hop] at hr
            refine hv_vret dX4_parseSum_76 rfl ?_
            rw [← hr]; exact ⟨rfl, rfl, rfl, hσ, hk, hp2, hp3, hp4⟩
          · have hop : kd f n a = 29 ∨ kd f n a = 30 := by
              rcases of_decide_eq_true (bI_1 c_29) with q | q
              · exact Or.inl ((nI_eq (b := 29) (by omega) (by decide)).mp q)
              · exact Or.inr ((nI_eq (b := 30) (by omega) (by decide)).mp q)
            rw [if_pos hop] at hr
            refine hv_aload_n dX4_parseSum_32 rfl ?_
            refine hv_geti dX4_parseSum_33 fl_X4_29 (by first | rfl | assumption) rfl ?_
            refine hv_bipush (v := 29) dX4_parseSum_36 (by decide) ?_
            rw [h3]
            refine hv_icmp_ne (tgt := 45) dX4_parseSum_38 (by decide) (fun c_38 => ?_) (fun c_38 => ?_)
            · rw [if_neg (fun q => c_38 (by rw [q]; rfl))] at ho
              refine hv_iconst (v := 3) dX4_parseSum_45 (by decide) ?_
              refine hv_str (congrArg (fun z => [Value.int z]) ho) ?_
              refine hv_istore_n dX4_parseSum_46 rfl rfl ?_
              exact go none (Or.inl rfl) hop hr
            · rw [if_pos ((nI_eq (b := 29) (by omega) (by decide)).mp c_38)] at ho
              refine hv_iconst (v := 2) dX4_parseSum_41 (by decide) ?_
              refine hv_goto (tgt := 46) dX4_parseSum_42 (by decide) ?_
              refine hv_str (congrArg (fun z => [Value.int z]) ho) ?_
              refine hv_istore_n dX4_parseSum_46 rfl rfl ?_
              exact go none (Or.inl rfl) hop hr
  refine hv_aload_n dX4_parseSum_0 rfl ?_
  refine hv_iload_n dX4_parseSum_1 rfl ?_
  refine hv_cv1 (call ht hs hz) dX4_parseSum_2 ml_X4_87 mk_X4_parseProduct (by first | rfl | assumption) rfl rfl rfl rfl rfl ?_
  rintro _ _ σ1 _ ⟨rfl, rfl, rfl, q1, q2, q3⟩
  refine hv_iconst (v := 0) dX4_parseSum_5 (by decide) ?_
  refine hv_istore_n dX4_parseSum_6 rfl rfl ?_
  exact loop 401 0 (bd s (fun a _ => U a)) _ σ1 none (by omega) (Or.inl rfl) q1 q2 q3 (by rw [bd_assoc])
set_option maxRecDepth 100000 in
theorem c_parseUnit_0 {f : hF} {n sz : Nat} {s : hPR Unit} (ht : tokC f n σ) (hs : pSt f n s σ) (hz : szOk sz s σ) : hCal G (m_parseUnit_0 (hQp xEx none (rr 38 51 (some 58) y) σ τ (fun σ' => k7 σ σ' ∧ pEx f n sz (bd s (fun a _ => uX (kd f n) (vl f n) 6 a)) σ σ'))) [.ref (hgA G 7), .int (nI 0)] shp (rr 38 51 (some 58) y) σ τ := by
  refine hv_enter pn_X4 rfl ?_
  obtain ⟨z1, z2, z3⟩ := hz
  rcases s with ⟨z, t⟩ | ⟨a, u⟩
  · have h1 := hs.1
    have hne : ¬ σ 7 7 = 0 := by rw [h1]; exact nI_ne0 (by have := hs.2.1; omega) (by have := hs.2.1; omega)
    refine hv_aload_n dX4_parseUnit_0 rfl ?_
    refine hv_geti dX4_parseUnit_1 fl_X4_41 (by first | rfl | assumption) rfl ?_
    refine hv_if_eq (tgt := 8) dX4_parseUnit_4 (by decide) (fun c_4 => absurd c_4 (hne)) (fun c_4 => ?_)
    refine hv_vret dX4_parseUnit_7 rfl ?_
    exact ⟨rfl, rfl, rfl, fun _ _ => rfl, k7_rf, hs, fun _ _ => rfl, sz, z2, z1⟩
  · have hsz := z3 a u rfl
    have h1 := hs.1
    have h2 := hs.2.1
    have h3 := hs.2.2.1
    have h4 := hs.2.2.2
    have ha := h4.1
    have hkl := kd_le f n a
    have hu := uX_s (kd f n) (vl f n) 5 a
    rw [show bd (Sum.inr (a, u) : hPR Unit) (fun a _ => uX (kd f n) (vl f n) 6 a) = _ from hu]
    have leaf : ∀ (k o : Int32) (σ1 : hS), (∀ k, k ∉ [58, 59, 60] → σ1 k = σ k) → pPut sz k o σ σ1 → tokC f n σ1 ∧ pSt f n (.inr (a, u)) σ1 ∧ ∀ σ2 : hS, (∀ k, k ∉ [7] → σ2 k = σ1 k) → k7 σ1 σ2 → pSt f n (bd (Sum.inr (a, u) : hPR Unit) (fun a _ => pass a)) σ2 → (∀ c, c ∉ xEx → σ2 c = σ c) ∧ k7 σ σ2 ∧ pEx f n sz (bd (pass a) (fun a _ => .inr (a, [(k, o)]))) σ σ2 := by
      intro k o σ1 q1 q2
      refine ⟨tokC_of ht q1 rfl, pSt_of hs (q1 7 (by decide)), fun σ2 r1 r2 r3 => ⟨off_tr q1 r1 (by decide) (by decide), k7_tr (fun j _ _ _ => by rw [q1 7 (by decide)]) r2, ?_⟩⟩
      have r4 : pSt f n (pass a) σ2 := r3
      unfold pass at r4 ⊢
      by_cases c : a < 400
      · rw [if_pos c] at r4 ⊢
        exact ⟨r4, pLw_of (pLw_p1 (by omega) q2) (r1 58 (by decide)) (r1 59 (by decide)) (r1 60 (by decide)), by simp; omega⟩
      · rw [if_neg c] at r4 ⊢
        exact ⟨r4, pLg_of (pLg_p z1 z2 q2) (r1 58 (by decide))⟩
    have flt : ∀ v : Nat, (v = 1 ∨ v = 2) → pEx f n sz (.inl (v, a)) σ (va_up σ 7 (upd (σ 7) 7 (nI v))) := by
      intro v hv
      exact ⟨⟨by rw [hup_eq, pk_us], hv, by rw [hup_eq, pk_un (by decide)]; exact h2, h4⟩, fun j hj => by rw [hva_ne (by decide)], sz, z2, by rw [hva_ne (by decide)]; exact z1⟩
    refine hv_aload_n dX4_parseUnit_0 rfl ?_
    refine hv_geti dX4_parseUnit_1 fl_X4_41 (by first | rfl | assumption) rfl ?_
    refine hv_if_eq (tgt := 8) dX4_parseUnit_4 (by decide) (fun c_4 => ?_) (fun c_4 => absurd (h1) c_4)
    refine hv_aload_n dX4_parseUnit_8 rfl ?_
    refine hv_geti dX4_parseUnit_9 fl_X4_29 (by first | rfl | assumption) rfl ?_
    refine hv_bipush (v := 24) dX4_parseUnit_12 (by decide) ?_
    rw [h3]
    refine hv_icmp_ne (tgt := 48) dX4_parseUnit_14 (by decide) (fun c_14 => ?_) (fun c_14 => ?_)
    · have hk : ¬ kd f n a = 24 := fun q => c_14 (by rw [q]; rfl)
      rw [if_neg hk]
      refine hv_aload_n dX4_parseUnit_48 rfl ?_
      refine hv_geti dX4_parseUnit_49 fl_X4_29 (by first | rfl | assumption) rfl ?_
      refine hv_bipush (v := 14) dX4_parseUnit_52 (by decide) ?_
      rw [h3]
      refine hv_icmp_lt (tgt := 93) dX4_parseUnit_54 (by decide) (fun c_54 => ?_) (fun c_54 => ?_)
      · have hv : ¬ (14 ≤ kd f n a ∧ kd f n a ≤ 22) := fun q => by have := (nI_ltI (b := 14) (by omega) (by decide)).mp c_54; omega
        rw [if_neg hv]
        refine hv_aload_n dX4_parseUnit_93 rfl ?_
        refine hv_geti dX4_parseUnit_94 fl_X4_29 (by first | rfl | assumption) rfl ?_
        refine hv_bipush (v := 34) dX4_parseUnit_97 (by decide) ?_
        rw [h3]
        refine hv_icmp_eq (tgt := 110) dX4_parseUnit_99 (by decide) (fun c_99 => ?_) (fun c_99 => ?_)
        · have ho : kd f n a = 34 := (nI_eq (b := 34) (by omega) (by decide)).mp c_99
          rw [if_pos ho]
          refine hv_iload_n dX4_parseUnit_110 rfl ?_
          refine hv_bipush (v := 6) dX4_parseUnit_111 (by decide) ?_
          refine hv_icmp_lt (tgt := 124) dX4_parseUnit_113 (by decide) (fun c_113 => ?_) (fun c_113 => absurd ((by decide)) c_113)
          refine hv_aload_n dX4_parseUnit_124 rfl ?_
          refine hv_aload_n dX4_parseUnit_125 rfl ?_
          refine hv_geti dX4_parseUnit_126 fl_X4_29 (by first | rfl | assumption) rfl ?_
          refine hv_cv1 (c_pass ht hs (fun b w q => by cases q; rw [ho]; decide)) dX4_parseUnit_129 ml_X4_63 mk_X4_take (by first | rfl | assumption) rfl rfl rfl rfl rfl ?_
          rintro _ _ σ2 _ ⟨rfl, rfl, rfl, r1, r2, r3⟩
          have r4 : pSt f n (pass a) σ2 := r3
          have hz2 : szOk sz (pass a) σ2 := ⟨by rw [r1 58 (by decide)]; exact z1, z2, fun b w q => by have := pass_r q; omega⟩
          refine hv_aload_n dX4_parseUnit_132 rfl ?_
          refine hv_iload_n dX4_parseUnit_133 rfl ?_
          refine hv_iconst (v := 1) dX4_parseUnit_134 (by decide) ?_
          refine hv_iadd dX4_parseUnit_135 ?_
          refine hv_cv1 (c_parseSum_1 (tokC_of ht r1 rfl) r4 hz2) dX4_parseUnit_136 ml_X4_77 mk_X4_parseSum (by first | rfl | assumption) rfl rfl rfl rfl rfl ?_
          rintro _ _ σ3 _ ⟨rfl, rfl, rfl, t1, t2, t3, t9⟩
          obtain ⟨r5, hr5⟩ : ∃ r5, bd (pass a) (fun a _ => sumX (kd f n) (uX (kd f n) (vl f n) 5) a) = r5 := ⟨_, rfl⟩
          rw [hr5] at t3 t9
          rw [← bd_assoc, hr5]
          have t4 : tokC f n σ3 := tokC_of (tokC_of ht r1 rfl) t1 rfl
          refine hv_aload_n dX4_parseUnit_139 rfl ?_
          refine hv_bipush (v := 35) dX4_parseUnit_140 (by decide) ?_
          refine hv_cv1 (c_take (k := 35) t4 t3 (by decide) (by decide)) dX4_parseUnit_142 ml_X4_63 mk_X4_take (by first | rfl | assumption) rfl rfl rfl rfl rfl ?_
          rintro _ _ σ4 _ ⟨rfl, rfl, rfl, w1, w2, w3⟩
          refine hv_vret dX4_parseUnit_145 rfl ?_
          first
            | exact ⟨rfl, rfl, rfl, m1, m2, m3⟩
            | exact ⟨rfl, rfl, rfl, off_up (fun _ _ => rfl) (by decide), fun j j1 j2 j3 => by rw [hup_eq, pk_un j3], flt 1 (Or.inl rfl)⟩
            | (refine ⟨rfl, rfl, rfl, off_tr (off_tr r1 t1 (Z := xEx) (by decide) (by decide)) w1 (by decide) (by decide), k7_tr (k7_tr r2 t2) w2, ?_⟩
               have e2 : ∀ j, j ≠ 5 → σ2 58 j = σ 58 j := fun j _ => by rw [r1 58 (by decide)]
               rcases r5 with e | ⟨a', c'⟩
               · exact ⟨w3, pLg_of (pLg_tr e2 t9) (w1 58 (by decide))⟩
               · obtain ⟨u1, u2⟩ := t9
                 have hw : pSt f n (tk (kd f n) 35 a') σ4 := w3
                 have hlw : pLw sz c' σ σ4 := pLw_of (pLw_tr (c := []) (pLw_0 z1 (r1 58 (by decide)) (r1 59 (by decide)) (r1 60 (by decide))) u1) (w1 58 (by decide)) (w1 59 (by decide)) (w1 60 (by decide))
                 show pEx f n sz (bd (tk (kd f n) 35 a') (fun a'' _ => .inr (a'', c'))) σ σ4
                 have ha' : a' ≤ 400 := t3.2.2.2.1
                 rcases hr6 : tk (kd f n) 35 a' with e | ⟨a'', u'⟩
                 · rw [hr6] at hw
                   exact ⟨hw, pLw_lg hlw (by omega)⟩
                 · rw [hr6] at hw
                   have ha2 := (tk_r hr6).2.2
                   exact ⟨by cases u'; exact hw, hlw, by omega⟩)
        · have ho : ¬ kd f n a = 34 := fun q => c_99 (by rw [q]; rfl)
          rw [if_neg ho]
          refine hv_aload_n dX4_parseUnit_102 rfl ?_
          refine hv_iconst (v := 1) dX4_parseUnit_103 (by decide) ?_
          refine hv_cv1 (c_pfail) dX4_parseUnit_104 ml_X4_60 mk_X4_fail (by first | rfl | assumption) rfl rfl rfl rfl rfl ?_
          rintro _ _ _ _ ⟨rfl, rfl, rfl, rfl⟩
          rw [if_pos h1]
          refine hv_goto (tgt := 145) dX4_parseUnit_107 (by decide) ?_
          refine hv_vret dX4_parseUnit_145 rfl ?_
          first
            | exact ⟨rfl, rfl, rfl, m1, m2, m3⟩
            | exact ⟨rfl, rfl, rfl, off_up (fun _ _ => rfl) (by decide), fun j j1 j2 j3 => by rw [hup_eq, pk_un j3], flt 1 (Or.inl rfl)⟩
            | (refine ⟨rfl, rfl, rfl, off_tr (off_tr r1 t1 (Z := xEx) (by decide) (by decide)) w1 (by decide) (by decide), k7_tr (k7_tr r2 t2) w2, ?_⟩
               have e2 : ∀ j, j ≠ 5 → σ2 58 j = σ 58 j := fun j _ => by rw [r1 58 (by decide)]
               rcases r5 with e | ⟨a', c'⟩
               · exact ⟨w3, pLg_of (pLg_tr e2 t9) (w1 58 (by decide))⟩
               · obtain ⟨u1, u2⟩ := t9
                 have hw : pSt f n (tk (kd f n) 35 a') σ4 := w3
                 have hlw : pLw sz c' σ σ4 := pLw_of (pLw_tr (c := []) (pLw_0 z1 (r1 58 (by decide)) (r1 59 (by decide)) (r1 60 (by decide))) u1) (w1 58 (by decide)) (w1 59 (by decide)) (w1 60 (by decide))
                 show pEx f n sz (bd (tk (kd f n) 35 a') (fun a'' _ => .inr (a'', c'))) σ σ4
                 have ha' : a' ≤ 400 := t3.2.2.2.1
                 rcases hr6 : tk (kd f n) 35 a' with e | ⟨a'', u'⟩
                 · rw [hr6] at hw
                   exact ⟨hw, pLw_lg hlw (by omega)⟩
                 · rw [hr6] at hw
                   have ha2 := (tk_r hr6).2.2
                   exact ⟨by cases u'; exact hw, hlw, by omega⟩)
      · refine hv_aload_n dX4_parseUnit_57 rfl ?_
        refine hv_geti dX4_parseUnit_58 fl_X4_29 (by first | rfl | assumption) rfl ?_
        refine hv_bipush (v := 22) dX4_parseUnit_61 (by decide) ?_
        rw [h3]
        refine hv_icmp_gt (tgt := 93) dX4_parseUnit_63 (by decide) (fun c_63 => ?_) (fun c_63 => ?_)
        · have hv : ¬ (14 ≤ kd f n a ∧ kd f n a ≤ 22) := fun q => by have := (nI_ltI (a := 22) (by decide) (by omega)).mp c_63; omega
          rw [if_neg hv]
          refine hv_aload_n dX4_parseUnit_93 rfl ?_
          refine hv_geti dX4_parseUnit_94 fl_X4_29 (by first | rfl | assumption) rfl ?_
          refine hv_bipush (v := 34) dX4_parseUnit_97 (by decide) ?_
          rw [h3]
          refine hv_icmp_eq (tgt := 110) dX4_parseUnit_99 (by decide) (fun c_99 => ?_) (fun c_99 => ?_)
          · have ho : kd f n a = 34 := (nI_eq (b := 34) (by omega) (by decide)).mp c_99
            rw [if_pos ho]
            refine hv_iload_n dX4_parseUnit_110 rfl ?_
            refine hv_bipush (v := 6) dX4_parseUnit_111 (by decide) ?_
            refine hv_icmp_lt (tgt := 124) dX4_parseUnit_113 (by decide) (fun c_113 => ?_) (fun c_113 => absurd ((by decide)) c_113)
            refine hv_aload_n dX4_parseUnit_124 rfl ?_
            refine hv_aload_n dX4_parseUnit_125 rfl ?_
            refine hv_geti dX4_parseUnit_126 fl_X4_29 (by first | rfl | assumption) rfl ?_
            refine hv_cv1 (c_pass ht hs (fun b w q => by cases q; rw [ho]; decide)) dX4_parseUnit_129 ml_X4_63 mk_X4_take (by first | rfl | assumption) rfl rfl rfl rfl rfl ?_
            rintro _ _ σ2 _ ⟨rfl, rfl, rfl, r1, r2, r3⟩
            have r4 : pSt f n (pass a) σ2 := r3
            have hz2 : szOk sz (pass a) σ2 := ⟨by rw [r1 58 (by decide)]; exact z1, z2, fun b w q => by have := pass_r q; omega⟩
            refine hv_aload_n dX4_parseUnit_132 rfl ?_
            refine hv_iload_n dX4_parseUnit_133 rfl ?_
            refine hv_iconst (v := 1) dX4_parseUnit_134 (by decide) ?_
            refine hv_iadd dX4_parseUnit_135 ?_
            refine hv_cv1 (c_parseSum_1 (tokC_of ht r1 rfl) r4 hz2) dX4_parseUnit_136 ml_X4_77 mk_X4_parseSum (by first | rfl | assumption) rfl rfl rfl rfl rfl ?_
            rintro _ _ σ3 _ ⟨rfl, rfl, rfl, t1, t2, t3, t9⟩
            obtain ⟨r5, hr5⟩ : ∃ r5, bd (pass a) (fun a _ => sumX (kd f n) (uX (kd f n) (vl f n) 5) a) = r5 := ⟨_, rfl⟩
            rw [hr5] at t3 t9
            rw [← bd_assoc, hr5]
            have t4 : tokC f n σ3 := tokC_of (tokC_of ht r1 rfl) t1 rfl
            refine hv_aload_n dX4_parseUnit_139 rfl ?_
            refine hv_bipush (v := 35) dX4_parseUnit_140 (by decide) ?_
            refine hv_cv1 (c_take (k := 35) t4 t3 (by decide) (by decide)) dX4_parseUnit_142 ml_X4_63 mk_X4_take (by first | rfl | assumption) rfl rfl rfl rfl rfl ?_
            rintro _ _ σ4 _ ⟨rfl, rfl, rfl, w1, w2, w3⟩
            refine hv_vret dX4_parseUnit_145 rfl ?_
            first
              | exact ⟨rfl, rfl, rfl, m1, m2, m3⟩
              | exact ⟨rfl, rfl, rfl, off_up (fun _ _ => rfl) (by decide), fun j j1 j2 j3 => by rw [hup_eq, pk_un j3], flt 1 (Or.inl rfl)⟩
              | (refine ⟨rfl, rfl, rfl, off_tr (off_tr r1 t1 (Z := xEx) (by decide) (by decide)) w1 (by decide) (by decide), k7_tr (k7_tr r2 t2) w2, ?_⟩
                 have e2 : ∀ j, j ≠ 5 → σ2 58 j = σ 58 j := fun j _ => by rw [r1 58 (by decide)]
                 rcases r5 with e | ⟨a', c'⟩
                 · exact ⟨w3, pLg_of (pLg_tr e2 t9) (w1 58 (by decide))⟩
                 · obtain ⟨u1, u2⟩ := t9
                   have hw : pSt f n (tk (kd f n) 35 a') σ4 := w3
                   have hlw : pLw sz c' σ σ4 := pLw_of (pLw_tr (c := []) (pLw_0 z1 (r1 58 (by decide)) (r1 59 (by decide)) (r1 60 (by decide))) u1) (w1 58 (by decide)) (w1 59 (by decide)) (w1 60 (by decide))
                   show pEx f n sz (bd (tk (kd f n) 35 a') (fun a'' _ => .inr (a'', c'))) σ σ4
                   have ha' : a' ≤ 400 := t3.2.2.2.1
                   rcases hr6 : tk (kd f n) 35 a' with e | ⟨a'', u'⟩
                   · rw [hr6] at hw
                     exact ⟨hw, pLw_lg hlw (by omega)⟩
                   · rw [hr6] at hw
                     have ha2 := (tk_r hr6).2.2
                     exact ⟨by cases u'; exact hw, hlw, by omega⟩)
          · have ho : ¬ kd f n a = 34 := fun q => c_99 (by rw [q]; rfl)
            rw [if_neg ho]
            refine hv_aload_n dX4_parseUnit_102 rfl ?_
            refine hv_iconst (v := 1) dX4_parseUnit_103 (by decide) ?_
            refine hv_cv1 (c_pfail) dX4_parseUnit_104 ml_X4_60 mk_X4_fail (by first | rfl | assumption) rfl rfl rfl rfl rfl ?_
            rintro _ _ _ _ ⟨rfl, rfl, rfl, rfl⟩
            rw [if_pos h1]
            refine hv_goto (tgt := 145) dX4_parseUnit_107 (by decide) ?_
            refine hv_vret dX4_parseUnit_145 rfl ?_
            first
              | exact ⟨rfl, rfl, rfl, m1, m2, m3⟩
              | exact ⟨rfl, rfl, rfl, off_up (fun _ _ => rfl) (by decide), fun j j1 j2 j3 => by rw [hup_eq, pk_un j3], flt 1 (Or.inl rfl)⟩
              | (refine ⟨rfl, rfl, rfl, off_tr (off_tr r1 t1 (Z := xEx) (by decide) (by decide)) w1 (by decide) (by decide), k7_tr (k7_tr r2 t2) w2, ?_⟩
                 have e2 : ∀ j, j ≠ 5 → σ2 58 j = σ 58 j := fun j _ => by rw [r1 58 (by decide)]
                 rcases r5 with e | ⟨a', c'⟩
                 · exact ⟨w3, pLg_of (pLg_tr e2 t9) (w1 58 (by decide))⟩
                 · obtain ⟨u1, u2⟩ := t9
                   have hw : pSt f n (tk (kd f n) 35 a') σ4 := w3
                   have hlw : pLw sz c' σ σ4 := pLw_of (pLw_tr (c := []) (pLw_0 z1 (r1 58 (by decide)) (r1 59 (by decide)) (r1 60 (by decide))) u1) (w1 58 (by decide)) (w1 59 (by decide)) (w1 60 (by decide))
                   show pEx f n sz (bd (tk (kd f n) 35 a') (fun a'' _ => .inr (a'', c'))) σ σ4
                   have ha' : a' ≤ 400 := t3.2.2.2.1
                   rcases hr6 : tk (kd f n) 35 a' with e | ⟨a'', u'⟩
                   · rw [hr6] at hw
                     exact ⟨hw, pLw_lg hlw (by omega)⟩
                   · rw [hr6] at hw
                     have ha2 := (tk_r hr6).2.2
                     exact ⟨by cases u'; exact hw, hlw, by omega⟩)
        · have hv : 14 ≤ kd f n a ∧ kd f n a ≤ 22 := ⟨(nI_leI (a := 14) (by decide) (by omega)).mp (Int32.not_lt.mp c_54), (nI_leI (b := 22) (by omega) (by decide)).mp (Int32.not_lt.mp c_63)⟩
          rw [if_pos hv]
          refine hv_aload_n dX4_parseUnit_66 rfl ?_
          refine hv_getr dX4_parseUnit_67 fl_X4_15 (by first | rfl | assumption) rfl (by first | rfl | assumption) ?_
          refine hv_iconst (v := 1) dX4_parseUnit_70 (by decide) ?_
          refine hv_aload_n dX4_parseUnit_71 rfl ?_
          refine hv_geti dX4_parseUnit_72 fl_X4_29 (by first | rfl | assumption) rfl ?_
          refine hv_bipush (v := 14) dX4_parseUnit_75 (by decide) ?_
          rw [h3]
          refine hv_isub dX4_parseUnit_77 ?_
          rw [show nI (kd f n a) - 14 = nI (kd f n a - 14) from pk_sub (b := 14) hv.1]
          refine hv_cv2 (c_lput z1 z2) dX4_parseUnit_78 ml_X4_80 mk_X1_put (by first | rfl | assumption) rfl rfl rfl rfl rfl ?_
          rintro _ _ σ1 _ ⟨rfl, rfl, rfl, q1, q2⟩
          obtain ⟨l1, l2, l3⟩ := leaf _ _ σ1 q1 q2
          refine hv_pop dX4_parseUnit_81 rfl ?_
          refine hv_aload_n dX4_parseUnit_82 rfl ?_
          refine hv_aload_n dX4_parseUnit_83 rfl ?_
          refine hv_geti dX4_parseUnit_84 fl_X4_29 (by first | rfl | assumption) rfl ?_
          refine hv_cv1 (c_pass l1 l2 (fun b w q => by cases q; omega)) dX4_parseUnit_87 ml_X4_63 mk_X4_take (by first | rfl | assumption) rfl rfl rfl rfl rfl ?_
          rintro _ _ σ2 _ ⟨rfl, rfl, rfl, r1, r2, r3⟩
          obtain ⟨m1, m2, m3⟩ := l3 σ2 r1 r2 r3
          refine hv_goto (tgt := 145) dX4_parseUnit_90 (by decide) ?_
          refine hv_vret dX4_parseUnit_145 rfl ?_
          first
            | exact ⟨rfl, rfl, rfl, m1, m2, m3⟩
            | exact ⟨rfl, rfl, rfl, off_up (fun _ _ => rfl) (by decide), fun j j1 j2 j3 => by rw [hup_eq, pk_un j3], flt 1 (Or.inl rfl)⟩
            | (refine ⟨rfl, rfl, rfl, off_tr (off_tr r1 t1 (Z := xEx) (by decide) (by decide)) w1 (by decide) (by decide), k7_tr (k7_tr r2 t2) w2, ?_⟩
               have e2 : ∀ j, j ≠ 5 → σ2 58 j = σ 58 j := fun j _ => by rw [r1 58 (by decide)]
               rcases r5 with e | ⟨a', c'⟩
               · exact ⟨w3, pLg_of (pLg_tr e2 t9) (w1 58 (by decide))⟩
               · obtain ⟨u1, u2⟩ := t9
                 have hw : pSt f n (tk (kd f n) 35 a') σ4 := w3
                 have hlw : pLw sz c' σ σ4 := pLw_of (pLw_tr (c := []) (pLw_0 z1 (r1 58 (by decide)) (r1 59 (by decide)) (r1 60 (by decide))) u1) (w1 58 (by decide)) (w1 59 (by decide)) (w1 60 (by decide))
                 show pEx f n sz (bd (tk (kd f n) 35 a') (fun a'' _ => .inr (a'', c'))) σ σ4
                 have ha' : a' ≤ 400 := t3.2.2.2.1
                 rcases hr6 : tk (kd f n) 35 a' with e | ⟨a'', u'⟩
                 · rw [hr6] at hw
                   exact ⟨hw, pLw_lg hlw (by omega)⟩
                 · rw [hr6] at hw
                   have ha2 := (tk_r hr6).2.2
                   exact ⟨by cases u'; exact hw, hlw, by omega⟩)
    · have hk : kd f n a = 24 := (nI_eq (b := 24) (by omega) (by decide)).mp c_14
      rw [if_pos hk]
      refine hv_aload_n dX4_parseUnit_17 rfl ?_
      refine hv_getr dX4_parseUnit_18 fl_X4_15 (by first | rfl | assumption) rfl (by first | rfl | assumption) ?_
      refine hv_iconst (v := 0) dX4_parseUnit_21 (by decide) ?_
      refine hv_aload_n dX4_parseUnit_22 rfl ?_
      refine hv_getr dX4_parseUnit_23 fl_X4_9 (by first | rfl | assumption) rfl (by first | rfl | assumption) ?_
      refine hv_aload_n dX4_parseUnit_26 rfl ?_
      refine hv_geti dX4_parseUnit_27 fl_X4_19 (by first | rfl | assumption) rfl ?_
      rw [h2]
      refine hv_cv1 (c_tvalue ht h4) dX4_parseUnit_30 ml_X4_97 mk_X9_value (by first | rfl | assumption) rfl rfl rfl rfl rfl ?_
      rintro _ _ _ _ ⟨rfl, rfl, rfl, rfl⟩
      refine hv_cv2 (c_lput z1 z2) dX4_parseUnit_33 ml_X4_80 mk_X1_put (by first | rfl | assumption) rfl rfl rfl rfl rfl ?_
      rintro _ _ σ1 _ ⟨rfl, rfl, rfl, q1, q2⟩
      obtain ⟨l1, l2, l3⟩ := leaf _ _ σ1 q1 q2
      refine hv_pop dX4_parseUnit_36 rfl ?_
      refine hv_aload_n dX4_parseUnit_37 rfl ?_
      refine hv_aload_n dX4_parseUnit_38 rfl ?_
      refine hv_geti dX4_parseUnit_39 fl_X4_29 (by first | rfl | assumption) rfl ?_
      refine hv_cv1 (c_pass l1 l2 (fun b w q => by cases q; rw [hk]; decide)) dX4_parseUnit_42 ml_X4_63 mk_X4_take (by first | rfl | assumption) rfl rfl rfl rfl rfl ?_
      rintro _ _ σ2 _ ⟨rfl, rfl, rfl, r1, r2, r3⟩
      obtain ⟨m1, m2, m3⟩ := l3 σ2 r1 r2 r3
      refine hv_goto (tgt := 145) dX4_parseUnit_45 (by decide) ?_
      refine hv_vret dX4_parseUnit_145 rfl ?_
      first
        | exact ⟨rfl, rfl, rfl, m1, m2, m3⟩
        | exact ⟨rfl, rfl, rfl, off_up (fun _ _ => rfl) (by decide), fun j j1 j2 j3 => by rw [hup_eq, pk_un j3], flt 1 (Or.inl rfl)⟩
        | (refine ⟨rfl, rfl, rfl, off_tr (off_tr r1 t1 (Z := xEx) (by decide) (by decide)) w1 (by decide) (by decide), k7_tr (k7_tr r2 t2) w2, ?_⟩
           have e2 : ∀ j, j ≠ 5 → σ2 58 j = σ 58 j := fun j _ => by rw [r1 58 (by decide)]
           rcases r5 with e | ⟨a', c'⟩
           · exact ⟨w3, pLg_of (pLg_tr e2 t9) (w1 58 (by decide))⟩
           · obtain ⟨u1, u2⟩ := t9
             have hw : pSt f n (tk (kd f n) 35 a') σ4 := w3
             have hlw : pLw sz c' σ σ4 := pLw_of (pLw_tr (c := []) (pLw_0 z1 (r1 58 (by decide)) (r1 59 (by decide)) (r1 60 (by decide))) u1) (w1 58 (by decide)) (w1 59 (by decide)) (w1 60 (by decide))
             show pEx f n sz (bd (tk (kd f n) 35 a') (fun a'' _ => .inr (a'', c'))) σ σ4
             have ha' : a' ≤ 400 := t3.2.2.2.1
             rcases hr6 : tk (kd f n) 35 a' with e | ⟨a'', u'⟩
             · rw [hr6] at hw
               exact ⟨hw, pLw_lg hlw (by omega)⟩
             · rw [hr6] at hw
               have ha2 := (tk_r hr6).2.2
               exact ⟨by cases u'; exact hw, hlw, by omega⟩)
set_option maxRecDepth 100000 in
theorem c_parseProduct_0 {f : hF} {n sz : Nat} {s : hPR Unit} (ht : tokC f n σ) (hs : pSt f n s σ) (hz : szOk sz s σ) : hCal G (m_parseProduct_0 (hQp xEx none (rr 38 51 (some 58) y) σ τ (fun σ' => k7 σ σ' ∧ pEx f n sz (bd s (fun a _ => prodX (kd f n) (uX (kd f n) (vl f n) 6) a)) σ σ'))) [.ref (hgA G 7), .int (nI 0)] shp (rr 38 51 (some 58) y) σ τ := by
  refine hv_enter pn_X4 rfl ?_
  obtain ⟨U, hU⟩ : ∃ U : Nat → hPR hCd, uX (kd f n) (vl f n) 6 = U := ⟨_, rfl⟩
  have hUo : ∀ at', at' ≤ 400 → okG (kd f n) at' (fun a c => at' < a ∧ c.length ≤ a - at') (U at') := fun at' h => by
    rw [← hU]
    exact okG_mono _ (uX_ok (kd f n) (vl f n) 6 at' h) (fun a c _ _ q => ⟨q.1, q.2.2.1⟩)
  have call : ∀ {s2 : hPR Unit} {σ2 : hS} {sz2 : Nat}, tokC f n σ2 → pSt f n s2 σ2 → szOk sz2 s2 σ2 → hCal G (m_parseUnit_0 (hQp xEx none (rr 38 51 (some 58) y) σ2 τ (fun σ' => k7 σ2 σ' ∧ pEx f n sz2 (bd s2 (fun a _ => U a)) σ2 σ'))) [.ref (hgA G 7), .int (nI 0)] shp (rr 38 51 (some 58) y) σ2 τ := fun h1 h2 h3 => by
    rw [← hU]; exact c_parseUnit_0 h1 h2 h3
  rw [show (fun a (_ : Unit) => prodX (kd f n) (uX (kd f n) (vl f n) 6) a) = (fun a _ => bd (U a) (fun a c => prodL (kd f n) U 401 a c)) from by rw [← hU]; rfl]
  have loop : ∀ k i r res (σ1 : hS) (l3 : Option Value), i + k = 401 → (l3 = none ∨ ∃ z, l3 = some (.int z)) → (∀ c, c ∉ xEx → σ1 c = σ c) → k7 σ σ1 → pEx f n sz r σ σ1 → bd r (fun a c => prodL (kd f n) U k a c) = res → hV G (m_parseProduct_0 (hQp xEx none (rr 38 51 (some 58) y) σ τ (fun σ' => k7 σ σ' ∧ pEx f n sz res σ σ'))) 0 0 shp 7 [some (.ref (hgA G 7)), some (.int (nI 0)), some (.int (nI i)), l3] [] (rr 38 51 (some 58) y) σ1 τ := by
    intro k
    induction k with
    | zero =>
      intro i r res σ1 l3 hi hl3 hσ hk hp hr
      obtain rfl : i = 401 := by omega
      have hrr : r = res := by rw [← hr]; rcases r with e | ⟨a, c⟩ <;> rfl
      refine hv_iload_n dX4_parseProduct_7 rfl ?_
      refine hv_sipush (v := 400) dX4_parseProduct_8 (by decide) ?_
      refine hv_icmp_gt (tgt := 76) dX4_parseProduct_11 (by decide) (fun c_11 => ?_) (fun c_11 => absurd ((by decide)) c_11)
      refine hv_vret dX4_parseProduct_76 rfl ?_
      rw [← hrr]; exact ⟨rfl, rfl, rfl, hσ, hk, hp⟩
    | succ k ih =>
      intro i r res σ1 l3 hi hl3 hσ hk hp hr
      rcases r with ⟨z, t⟩ | ⟨a, c⟩
      · have hp2 := hp.1
        have h1 := hp2.1
        have hne : ¬ σ1 7 7 = 0 := by rw [h1]; exact nI_ne0 (by have := hp2.2.1; omega) (by have := hp2.2.1; omega)
        refine hv_iload_n dX4_parseProduct_7 rfl ?_
        refine hv_sipush (v := 400) dX4_parseProduct_8 (by decide) ?_
        refine hv_icmp_gt (tgt := 76) dX4_parseProduct_11 (by decide) (fun c_11 => absurd c_11 ((nI_nlt (a := 400) (by omega) (by decide)))) (fun c_11 => ?_)
        refine hv_aload_n dX4_parseProduct_14 rfl ?_
        refine hv_geti dX4_parseProduct_15 fl_X4_41 (by first | rfl | assumption) rfl ?_
        refine hv_if_ne (tgt := 76) dX4_parseProduct_18 (by decide) (fun c_18 => ?_) (fun c_18 => absurd c_18 (hne))
        refine hv_vret dX4_parseProduct_76 rfl ?_
        rw [← hr]; exact ⟨rfl, rfl, rfl, hσ, hk, hp⟩
      · obtain ⟨hp2, hp3, hp4⟩ := hp
        have h1 := hp2.1
        have h3 := hp2.2.2.1
        have ha4 := hp2.2.2.2.1
        have hkl := kd_le f n a
        have tk1 : tokC f n σ1 := tokC_of ht hσ rfl
        rw [show bd (Sum.inr (a, c) : hPR hCd) (fun a c => prodL (kd f n) U (k + 1) a c) = _ from prodL_s (kd f n) U k a c] at hr
        obtain ⟨o, ho⟩ : ∃ o : Int32, (if kd f n a = 31 then 4 else 5 : Int32) = o := ⟨_, rfl⟩
        rw [ho] at hr
        have go : ∀ (l3 : Option Value), (l3 = none ∨ ∃ z, l3 = some (.int z)) → (kd f n a = 31 ∨ kd f n a = 32) → bd (pass a) (fun a1 _ => bd (U a1) (fun a' c' => prodL (kd f n) U k a' (c ++ c' ++ [(o, 0)]))) = res → hV G (m_parseProduct_0 (hQp xEx none (rr 38 51 (some 58) y) σ τ (fun σ' => k7 σ σ' ∧ pEx f n sz res σ σ'))) 0 0 shp 47 [some (.ref (hgA G 7)), some (.int (nI 0)), some (.int (nI i)), some (.int o)] [] (rr 38 51 (some 58) y) σ1 τ := by
          intro l3 hl3 hop hr
          refine hv_aload_n dX4_parseProduct_47 rfl ?_
          refine hv_aload_n dX4_parseProduct_48 rfl ?_
          refine hv_geti dX4_parseProduct_49 fl_X4_29 (by first | rfl | assumption) rfl ?_
          refine hv_cv1 (c_pass tk1 hp2 (fun b w q => by cases q; omega)) dX4_parseProduct_52 ml_X4_63 mk_X4_take (by first | rfl | assumption) rfl rfl rfl rfl rfl ?_
          rintro _ _ σ2 _ ⟨rfl, rfl, rfl, r1, r2, r3⟩
          have r4 : pSt f n (pass a) σ2 := r3
          have hlw2 : pLw sz c σ σ2 := pLw_of hp3 (r1 58 (by decide)) (r1 59 (by decide)) (r1 60 (by decide))
          have hz2 : szOk (sz + c.length) (pass a) σ2 := ⟨hlw2.2.1, by omega, fun b w q => by have := pass_r q; omega⟩
          have tk2 : tokC f n σ2 := tokC_of tk1 r1 rfl
          refine hv_aload_n dX4_parseProduct_55 rfl ?_
          refine hv_iload_n dX4_parseProduct_56 rfl ?_
          refine hv_cv1 (call tk2 r4 hz2) dX4_parseProduct_57 ml_X4_94 mk_X4_parseUnit (by first | rfl | assumption) rfl rfl rfl rfl rfl ?_
          rintro _ _ σ3 _ ⟨rfl, rfl, rfl, t1, t2, t3, t9⟩
          have hso : okG (kd f n) a (fun a' c' => a + 1 < a' ∧ c'.length ≤ a' - (a + 1)) (bd (pass a) (fun a _ => U a)) := okG_bd _ (okG_pass _ ha4 (by omega)) (fun a1 _ _ a4 ea => by subst ea; exact hUo (a + 1) a4)
          rw [← bd_assoc] at hr
          obtain ⟨r5, hr5⟩ : ∃ r5, bd (pass a) (fun a _ => U a) = r5 := ⟨_, rfl⟩
          rw [hr5] at t3 t9 hso hr
          obtain ⟨z, hzz, hz4, hz6⟩ : ∃ z, σ3 58 5 = nI z ∧ z ≤ 410 ∧ ∀ a' c', r5 = .inr (a', c') → z = sz + c.length + c'.length ∧ z + 1 ≤ 10 + a' := by
            rcases r5 with e | ⟨a', c'⟩
            · obtain ⟨z, q1, q2⟩ := t9.2
              exact ⟨z, q2, q1, fun _ _ q => nomatch q⟩
            · have h9 := hso.2.2.2
              have h8 := hso.2.1
              exact ⟨sz + c.length + c'.length, t9.1.2.1, by omega, fun _ _ q => by cases q; exact ⟨rfl, by omega⟩⟩
          refine hv_aload_n dX4_parseProduct_60 rfl ?_
          refine hv_getr dX4_parseProduct_61 fl_X4_15 (by first | rfl | assumption) rfl (by first | rfl | assumption) ?_
          refine hv_iload_n dX4_parseProduct_64 rfl ?_
          refine hv_iconst (v := 0) dX4_parseProduct_65 (by decide) ?_
          refine hv_cv2 (c_lput hzz hz4) dX4_parseProduct_66 ml_X4_80 mk_X1_put (by first | rfl | assumption) rfl rfl rfl rfl rfl ?_
          rintro _ _ σ4 _ ⟨rfl, rfl, rfl, w1, w2⟩
          refine hv_pop dX4_parseProduct_69 rfl ?_
          refine hv_iinc dX4_parseProduct_70 rfl (nI_1 i) rfl rfl ?_
          refine hv_goto (tgt := 7) dX4_parseProduct_73 (by decide) ?_
          refine ih (i + 1) (bd r5 (fun a' c' => .inr (a', c ++ c' ++ [(o, 0)]))) res σ4 _ (by omega) (Or.inr ⟨_, rfl⟩) (off_tr (off_tr (off_tr hσ r1 (Z := xEx) (by decide) (by decide)) t1 (Z := xEx) (by decide) (by decide)) w1 (by decide) (by decide)) (k7_tr (k7_tr (k7_tr hk r2) t2) (fun j _ _ _ => by rw [w1 7 (by decide)])) ?_ (by rw [bd_assoc]; exact hr)
          rcases r5 with e | ⟨a', c'⟩
          · exact ⟨pSt_of t3 (w1 7 (by decide)), pLg_tr (fun j hj => (t9.1 j hj).trans (hlw2.1 j hj)) (pLg_p hzz hz4 w2)⟩
          · obtain ⟨e1, e2⟩ := hz6 a' c' rfl
            have h8 := hso.2.1
            subst e1
            exact ⟨pSt_of t3 (w1 7 (by decide)), pLw_tr (pLw_tr hlw2 t9.1) (by rw [List.length_append, ← Nat.add_assoc]; exact pLw_p1 (by omega) w2), by rw [List.length_append, List.length_append, List.length_singleton]; omega⟩
        rcases hl3 with rfl | ⟨z, rfl⟩
        · skip
          refine hv_iload_n dX4_parseProduct_7 rfl ?_
          refine hv_sipush (v := 400) dX4_parseProduct_8 (by decide) ?_
          refine hv_icmp_gt (tgt := 76) dX4_parseProduct_11 (by decide) (fun c_11 => absurd c_11 ((nI_nlt (a := 400) (by omega) (by decide)))) (fun c_11 => ?_)
          refine hv_aload_n dX4_parseProduct_14 rfl ?_
          refine hv_geti dX4_parseProduct_15 fl_X4_41 (by first | rfl | assumption) rfl ?_
          refine hv_if_ne (tgt := 76) dX4_parseProduct_18 (by decide) (fun c_18 => absurd (h1) c_18) (fun c_18 => ?_)
          refine hv_aload_n dX4_parseProduct_21 rfl ?_
          refine hv_bipush (v := 31) dX4_parseProduct_22 (by decide) ?_
          refine hv_bipush (v := 32) dX4_parseProduct_24 (by decide) ?_
          refine hv_cv2 (c_isOne) dX4_parseProduct_26 ml_X4_90 mk_X4_isOne (by first | rfl | assumption) rfl rfl rfl rfl rfl ?_
          rintro _ _ _ _ ⟨rfl, rfl, rfl, rfl⟩
          rw [h3]
          refine hv_if_eq (tgt := 76) dX4_parseProduct_29 (by decide) (fun c_29 => ?_) (fun c_29 => ?_)
          · have hop : ¬ (kd f n a = 31 ∨ kd f n a = 32) := fun q => of_decide_eq_false (bI_0 c_29) (by rcases q with q | q; exact Or.inl (by rw [q]; rfl); exact Or.inr (by rw [q]; rfl))
            rw [if_neg hop] at hr
            refine hv_vret dX4_parseProduct_76 rfl ?_
            rw [← hr]; exact ⟨rfl, rfl, rfl, hσ, hk, hp2, hp3, hp4⟩
          · have hop : kd f n a = 31 ∨ kd f n a = 32 := by
              rcases of_decide_eq_true (bI_1 c_29) with q | q
              · exact Or.inl ((nI_eq (b := 31) (by omega) (by decide)).mp q)
              · exact Or.inr ((nI_eq (b := 32) (by omega) (by decide)).mp q)
            rw [if_pos hop] at hr
            refine hv_aload_n dX4_parseProduct_32 rfl ?_
            refine hv_geti dX4_parseProduct_33 fl_X4_29 (by first | rfl | assumption) rfl ?_
            refine hv_bipush (v := 31) dX4_parseProduct_36 (by decide) ?_
            rw [h3]
            refine hv_icmp_ne (tgt := 45) dX4_parseProduct_38 (by decide) (fun c_38 => ?_) (fun c_38 => ?_)
            · rw [if_neg (fun q => c_38 (by rw [q]; rfl))] at ho
              refine hv_iconst (v := 5) dX4_parseProduct_45 (by decide) ?_
              refine hv_str (congrArg (fun z => [Value.int z]) ho) ?_
              refine hv_istore_n dX4_parseProduct_46 rfl rfl ?_
              exact go none (Or.inl rfl) hop hr
            · rw [if_pos ((nI_eq (b := 31) (by omega) (by decide)).mp c_38)] at ho
              refine hv_iconst (v := 4) dX4_parseProduct_41 (by decide) ?_
              refine hv_goto (tgt := 46) dX4_parseProduct_42 (by decide) ?_
              refine hv_str (congrArg (fun z => [Value.int z]) ho) ?_
              refine hv_istore_n dX4_parseProduct_46 rfl rfl ?_
              exact go none (Or.inl rfl) hop hr
        · skip
          refine hv_iload_n dX4_parseProduct_7 rfl ?_
          refine hv_sipush (v := 400) dX4_parseProduct_8 (by decide) ?_
          refine hv_icmp_gt (tgt := 76) dX4_parseProduct_11 (by decide) (fun c_11 => absurd c_11 ((nI_nlt (a := 400) (by omega) (by decide)))) (fun c_11 => ?_)
          refine hv_aload_n dX4_parseProduct_14 rfl ?_
          refine hv_geti dX4_parseProduct_15 fl_X4_41 (by first | rfl | assumption) rfl ?_
          refine hv_if_ne (tgt := 76) dX4_parseProduct_18 (by decide) (fun c_18 => absurd (h1) c_18) (fun c_18 => ?_)
          refine hv_aload_n dX4_parseProduct_21 rfl ?_
          refine hv_bipush (v := 31) dX4_parseProduct_22 (by decide) ?_
          refine hv_bipush (v := 32) dX4_parseProduct_24 (by decide) ?_
          refine hv_cv2 (c_isOne) dX4_parseProduct_26 ml_X4_90 mk_X4_isOne (by first | rfl | assumption) rfl rfl rfl rfl rfl ?_
          rintro _ _ _ _ ⟨rfl, rfl, rfl, rfl⟩
          rw [h3]
          refine hv_if_eq (tgt := 76) dX4_parseProduct_29 (by decide) (fun c_29 => ?_) (fun c_29 => ?_)
          · have hop : ¬ (kd f n a = 31 ∨ kd f n a = 32) := fun q => of_decide_eq_false (bI_0 c_29) (by rcases q with q | q; exact Or.inl (by rw [q]; rfl); exact Or.inr (by rw [q]; rfl))
            rw [if_neg hop] at hr
            refine hv_vret dX4_parseProduct_76 rfl ?_
            rw [← hr]; exact ⟨rfl, rfl, rfl, hσ, hk, hp2, hp3, hp4⟩
          · have hop : kd f n a = 31 ∨ kd f n a = 32 := by
              rcases of_decide_eq_true (bI_1 c_29) with q | q
              · exact Or.inl ((nI_eq (b := 31) (by omega) (by decide)).mp q)
              · exact Or.inr ((nI_eq (b := 32) (by omega) (by decide)).mp q)
            rw [if_pos hop] at hr
            refine hv_aload_n dX4_parseProduct_32 rfl ?_
            refine hv_geti dX4_parseProduct_33 fl_X4_29 (by first | rfl | assumption) rfl ?_
            refine hv_bipush (v := 31) dX4_parseProduct_36 (by decide) ?_
            rw [h3]
            refine hv_icmp_ne (tgt := 45) dX4_parseProduct_38 (by decide) (fun c_38 => ?_) (fun c_38 => ?_)
            · rw [if_neg (fun q => c_38 (by rw [q]; rfl))] at ho
              refine hv_iconst (v := 5) dX4_parseProduct_45 (by decide) ?_
              refine hv_str (congrArg (fun z => [Value.int z]) ho) ?_
              refine hv_istore_n dX4_parseProduct_46 rfl rfl ?_
              exact go none (Or.inl rfl) hop hr
            · rw [if_pos ((nI_eq (b := 31) (by omega) (by decide)).mp c_38)] at ho
              refine hv_iconst (v := 4) dX4_parseProduct_41 (by decide) ?_
              refine hv_goto (tgt := 46) dX4_parseProduct_42 (by decide) ?_
              refine hv_str (congrArg (fun z => [Value.int z]) ho) ?_
              refine hv_istore_n dX4_parseProduct_46 rfl rfl ?_
              exact go none (Or.inl rfl) hop hr
  refine hv_aload_n dX4_parseProduct_0 rfl ?_
  refine hv_iload_n dX4_parseProduct_1 rfl ?_
  refine hv_cv1 (call ht hs hz) dX4_parseProduct_2 ml_X4_94 mk_X4_parseUnit (by first | rfl | assumption) rfl rfl rfl rfl rfl ?_
  rintro _ _ σ1 _ ⟨rfl, rfl, rfl, q1, q2, q3⟩
  refine hv_iconst (v := 0) dX4_parseProduct_5 (by decide) ?_
  refine hv_istore_n dX4_parseProduct_6 rfl rfl ?_
  exact loop 401 0 (bd s (fun a _ => U a)) _ σ1 none (by omega) (Or.inl rfl) q1 q2 q3 (by rw [bd_assoc])
set_option maxRecDepth 100000 in
theorem c_parseSum_0 {f : hF} {n sz : Nat} {s : hPR Unit} (ht : tokC f n σ) (hs : pSt f n s σ) (hz : szOk sz s σ) : hCal G (m_parseSum_0 (hQp xEx none (rr 38 51 (some 58) y) σ τ (fun σ' => k7 σ σ' ∧ pEx f n sz (bd s (fun a _ => sumX (kd f n) (uX (kd f n) (vl f n) 6) a)) σ σ'))) [.ref (hgA G 7), .int (nI 0)] shp (rr 38 51 (some 58) y) σ τ := by
  refine hv_enter pn_X4 rfl ?_
  obtain ⟨U, hU⟩ : ∃ U : Nat → hPR hCd, prodX (kd f n) (uX (kd f n) (vl f n) 6) = U := ⟨_, rfl⟩
  have hUo : ∀ at', at' ≤ 400 → okG (kd f n) at' (fun a c => at' < a ∧ c.length ≤ a - at') (U at') := fun at' h => by
    rw [← hU]
    exact okG_mono _ (prodX_ok (kd f n) (uX_ok (kd f n) (vl f n) 6) at' h) (fun a c _ _ q => ⟨q.1.1, q.1.2.2.1⟩)
  have call : ∀ {s2 : hPR Unit} {σ2 : hS} {sz2 : Nat}, tokC f n σ2 → pSt f n s2 σ2 → szOk sz2 s2 σ2 → hCal G (m_parseProduct_0 (hQp xEx none (rr 38 51 (some 58) y) σ2 τ (fun σ' => k7 σ2 σ' ∧ pEx f n sz2 (bd s2 (fun a _ => U a)) σ2 σ'))) [.ref (hgA G 7), .int (nI 0)] shp (rr 38 51 (some 58) y) σ2 τ := fun h1 h2 h3 => by
    rw [← hU]; exact c_parseProduct_0 h1 h2 h3
  rw [show (fun a (_ : Unit) => sumX (kd f n) (uX (kd f n) (vl f n) 6) a) = (fun a _ => bd (U a) (fun a c => sumL (kd f n) U 401 a c)) from by rw [← hU]; rfl]
  have loop : ∀ k i r res (σ1 : hS) (l3 : Option Value), i + k = 401 → (l3 = none ∨ ∃ z, l3 = some (.int z)) → (∀ c, c ∉ xEx → σ1 c = σ c) → k7 σ σ1 → pEx f n sz r σ σ1 → bd r (fun a c => sumL (kd f n) U k a c) = res → hV G (m_parseSum_0 (hQp xEx none (rr 38 51 (some 58) y) σ τ (fun σ' => k7 σ σ' ∧ pEx f n sz res σ σ'))) 0 0 shp 7 [some (.ref (hgA G 7)), some (.int (nI 0)), some (.int (nI i)), l3] [] (rr 38 51 (some 58) y) σ1 τ := by
    intro k
    induction k with
    | zero =>
      intro i r res σ1 l3 hi hl3 hσ hk hp hr
      obtain rfl : i = 401 := by omega
      have hrr : r = res := by rw [← hr]; rcases r with e | ⟨a, c⟩ <;> rfl
      refine hv_iload_n dX4_parseSum_7 rfl ?_
      refine hv_sipush (v := 400) dX4_parseSum_8 (by decide) ?_
      refine hv_icmp_gt (tgt := 76) dX4_parseSum_11 (by decide) (fun c_11 => ?_) (fun c_11 => absurd ((by decide)) c_11)
      refine hv_vret dX4_parseSum_76 rfl ?_
      rw [← hrr]; exact ⟨rfl, rfl, rfl, hσ, hk, hp⟩
    | succ k ih =>
      intro i r res σ1 l3 hi hl3 hσ hk hp hr
      rcases r with ⟨z, t⟩ | ⟨a, c⟩
      · have hp2 := hp.1
        have h1 := hp2.1
        have hne : ¬ σ1 7 7 = 0 := by rw [h1]; exact nI_ne0 (by have := hp2.2.1; omega) (by have := hp2.2.1; omega)
        refine hv_iload_n dX4_parseSum_7 rfl ?_
        refine hv_sipush (v := 400) dX4_parseSum_8 (by decide) ?_
        refine hv_icmp_gt (tgt := 76) dX4_parseSum_11 (by decide) (fun c_11 => absurd c_11 ((nI_nlt (a := 400) (by omega) (by decide)))) (fun c_11 => ?_)
        refine hv_aload_n dX4_parseSum_14 rfl ?_
        refine hv_geti dX4_parseSum_15 fl_X4_41 (by first | rfl | assumption) rfl ?_
        refine hv_if_ne (tgt := 76) dX4_parseSum_18 (by decide) (fun c_18 => ?_) (fun c_18 => absurd c_18 (hne))
        refine hv_vret dX4_parseSum_76 rfl ?_
        rw [← hr]; exact ⟨rfl, rfl, rfl, hσ, hk, hp⟩
      · obtain ⟨hp2, hp3, hp4⟩ := hp
        have h1 := hp2.1
        have h3 := hp2.2.2.1
        have ha4 := hp2.2.2.2.1
        have hkl := kd_le f n a
        have tk1 : tokC f n σ1 := tokC_of ht hσ rfl
        rw [show bd (Sum.inr (a, c) : hPR hCd) (fun a c => sumL (kd f n) U (k + 1) a c) = _ from sumL_s (kd f n) U k a c] at hr
        obtain ⟨o, ho⟩ : ∃ o : Int32, (if kd f n a = 29 then 2 else 3 : Int32) = o := ⟨_, rfl⟩
        rw [ho] at hr
        have go : ∀ (l3 : Option Value), (l3 = none ∨ ∃ z, l3 = some (.int z)) → (kd f n a = 29 ∨ kd f n a = 30) → bd (pass a) (fun a1 _ => bd (U a1) (fun a' c' => sumL (kd f n) U k a' (c ++ c' ++ [(o, 0)]))) = res → hV G (m_parseSum_0 (hQp xEx none (rr 38 51 (some 58) y) σ τ (fun σ' => k7 σ σ' ∧ pEx f n sz res σ σ'))) 0 0 shp 47 [some (.ref (hgA G 7)), some (.int (nI 0)), some (.int (nI i)), some (.int o)] [] (rr 38 51 (some 58) y) σ1 τ := by
          intro l3 hl3 hop hr
          refine hv_aload_n dX4_parseSum_47 rfl ?_
          refine hv_aload_n dX4_parseSum_48 rfl ?_
          refine hv_geti dX4_parseSum_49 fl_X4_29 (by first | rfl | assumption) rfl ?_
          refine hv_cv1 (c_pass tk1 hp2 (fun b w q => by cases q; omega)) dX4_parseSum_52 ml_X4_63 mk_X4_take (by first | rfl | assumption) rfl rfl rfl rfl rfl ?_
          rintro _ _ σ2 _ ⟨rfl, rfl, rfl, r1, r2, r3⟩
          have r4 : pSt f n (pass a) σ2 := r3
          have hlw2 : pLw sz c σ σ2 := pLw_of hp3 (r1 58 (by decide)) (r1 59 (by decide)) (r1 60 (by decide))
          have hz2 : szOk (sz + c.length) (pass a) σ2 := ⟨hlw2.2.1, by omega, fun b w q => by have := pass_r q; omega⟩
          have tk2 : tokC f n σ2 := tokC_of tk1 r1 rfl
          refine hv_aload_n dX4_parseSum_55 rfl ?_
          refine hv_iload_n dX4_parseSum_56 rfl ?_
          refine hv_cv1 (call tk2 r4 hz2) dX4_parseSum_57 ml_X4_87 mk_X4_parseProduct (by first | rfl | assumption) rfl rfl rfl rfl rfl ?_
          rintro _ _ σ3 _ ⟨rfl, rfl, rfl, t1, t2, t3, t9⟩
          have hso : okG (kd f n) a (fun a' c' => a + 1 < a' ∧ c'.length ≤ a' - (a + 1)) (bd (pass a) (fun a _ => U a)) := okG_bd _ (okG_pass _ ha4 (by omega)) (fun a1 _ _ a4 ea => by subst ea; exact hUo (a + 1) a4)
          rw [← bd_assoc] at hr
          obtain ⟨r5, hr5⟩ : ∃ r5, bd (pass a) (fun a _ => U a) = r5 := ⟨_, rfl⟩
          rw [hr5] at t3 t9 hso hr
          obtain ⟨z, hzz, hz4, hz6⟩ : ∃ z, σ3 58 5 = nI z ∧ z ≤ 410 ∧ ∀ a' c', r5 = .inr (a', c') → z = sz + c.length + c'.length ∧ z + 1 ≤ 10 + a' := by
            rcases r5 with e | ⟨a', c'⟩
            · obtain ⟨z, q1, q2⟩ := t9.2
              exact ⟨z, q2, q1, fun _ _ q => nomatch q⟩
            · have h9 := hso.2.2.2
              have h8 := hso.2.1
              exact ⟨sz + c.length + c'.length, t9.1.2.1, by omega, fun _ _ q => by cases q; exact ⟨rfl, by omega⟩⟩
          refine hv_aload_n dX4_parseSum_60 rfl ?_
          refine hv_getr dX4_parseSum_61 fl_X4_15 (by first | rfl | assumption) rfl (by first | rfl | assumption) ?_
          refine hv_iload_n dX4_parseSum_64 rfl ?_
          refine hv_iconst (v := 0) dX4_parseSum_65 (by decide) ?_
          refine hv_cv2 (c_lput hzz hz4) dX4_parseSum_66 ml_X4_80 mk_X1_put (by first | rfl | assumption) rfl rfl rfl rfl rfl ?_
          rintro _ _ σ4 _ ⟨rfl, rfl, rfl, w1, w2⟩
          refine hv_pop dX4_parseSum_69 rfl ?_
          refine hv_iinc dX4_parseSum_70 rfl (nI_1 i) rfl rfl ?_
          refine hv_goto (tgt := 7) dX4_parseSum_73 (by decide) ?_
          refine ih (i + 1) (bd r5 (fun a' c' => .inr (a', c ++ c' ++ [(o, 0)]))) res σ4 _ (by omega) (Or.inr ⟨_, rfl⟩) (off_tr (off_tr (off_tr hσ r1 (Z := xEx) (by decide) (by decide)) t1 (Z := xEx) (by decide) (by decide)) w1 (by decide) (by decide)) (k7_tr (k7_tr (k7_tr hk r2) t2) (fun j _ _ _ => by rw [w1 7 (by decide)])) ?_ (by rw [bd_assoc]; exact hr)
          rcases r5 with e | ⟨a', c'⟩
          · exact ⟨pSt_of t3 (w1 7 (by decide)), pLg_tr (fun j hj => (t9.1 j hj).trans (hlw2.1 j hj)) (pLg_p hzz hz4 w2)⟩
          · obtain ⟨e1, e2⟩ := hz6 a' c' rfl
            have h8 := hso.2.1
            subst e1
            exact ⟨pSt_of t3 (w1 7 (by decide)), pLw_tr (pLw_tr hlw2 t9.1) (by rw [List.length_append, ← Nat.add_assoc]; exact pLw_p1 (by omega) w2), by rw [List.length_append, List.length_append, List.length_singleton]; omega⟩
        rcases hl3 with rfl | ⟨z, rfl⟩
        · skip
          refine hv_iload_n dX4_parseSum_7 rfl ?_
          refine hv_sipush (v := 400) dX4_parseSum_8 (by decide) ?_
          refine hv_icmp_gt (tgt := 76) dX4_parseSum_11 (by decide) (fun c_11 => absurd c_11 ((nI_nlt (a := 400) (by omega) (by decide)))) (fun c_11 => ?_)
          refine hv_aload_n dX4_parseSum_14 rfl ?_
          refine hv_geti dX4_parseSum_15 fl_X4_41 (by first | rfl | assumption) rfl ?_
          refine hv_if_ne (tgt := 76) dX4_parseSum_18 (by decide) (fun c_18 => absurd (h1) c_18) (fun c_18 => ?_)
          refine hv_aload_n dX4_parseSum_21 rfl ?_
          refine hv_bipush (v := 29) dX4_parseSum_22 (by decide) ?_
          refine hv_bipush (v := 30) dX4_parseSum_24 (by decide) ?_
          refine hv_cv2 (c_isOne) dX4_parseSum_26 ml_X4_90 mk_X4_isOne (by first | rfl | assumption) rfl rfl rfl rfl rfl ?_
          rintro _ _ _ _ ⟨rfl, rfl, rfl, rfl⟩
          rw [h3]
          refine hv_if_eq (tgt := 76) dX4_parseSum_29 (by decide) (fun c_29 => ?_) (fun c_29 => ?_)
          · have hop : ¬ (kd f n a = 29 ∨ kd f n a = 30) := fun q => of_decide_eq_false (bI_0 c_29) (by rcases q with q | q; exact Or.inl (by rw [q]; rfl); exact Or.inr (by rw [q]; rfl))
            rw [if_neg hop] at hr
            refine hv_vret dX4_parseSum_76 rfl ?_
            rw [← hr]; exact ⟨rfl, rfl, rfl, hσ, hk, hp2, hp3, hp4⟩
          · have hop : kd f n a = 29 ∨ kd f n a = 30 := by
              rcases of_decide_eq_true (bI_1 c_29) with q | q
              · exact Or.inl ((nI_eq (b := 29) (by omega) (by decide)).mp q)
              · exact Or.inr ((nI_eq (b := 30) (by omega) (by decide)).mp q)
            rw [if_pos hop] at hr
            refine hv_aload_n dX4_parseSum_32 rfl ?_
            refine hv_geti dX4_parseSum_33 fl_X4_29 (by first | rfl | assumption) rfl ?_
            refine hv_bipush (v := 29) dX4_parseSum_36 (by decide) ?_
            rw [h3]
            refine hv_icmp_ne (tgt := 45) dX4_parseSum_38 (by decide) (fun c_38 => ?_) (fun c_38 => ?_)
            · rw [if_neg (fun q => c_38 (by rw [q]; rfl))] at ho
              refine hv_iconst (v := 3) dX4_parseSum_45 (by decide) ?_
              refine hv_str (congrArg (fun z => [Value.int z]) ho) ?_
              refine hv_istore_n dX4_parseSum_46 rfl rfl ?_
              exact go none (Or.inl rfl) hop hr
            · rw [if_pos ((nI_eq (b := 29) (by omega) (by decide)).mp c_38)] at ho
              refine hv_iconst (v := 2) dX4_parseSum_41 (by decide) ?_
              refine hv_goto (tgt := 46) dX4_parseSum_42 (by decide) ?_
              refine hv_str (congrArg (fun z => [Value.int z]) ho) ?_
              refine hv_istore_n dX4_parseSum_46 rfl rfl ?_
              exact go none (Or.inl rfl) hop hr
        · skip
          refine hv_iload_n dX4_parseSum_7 rfl ?_
          refine hv_sipush (v := 400) dX4_parseSum_8 (by decide) ?_
          refine hv_icmp_gt (tgt := 76) dX4_parseSum_11 (by decide) (fun c_11 => absurd c_11 ((nI_nlt (a := 400) (by omega) (by decide)))) (fun c_11 => ?_)
          refine hv_aload_n dX4_parseSum_14 rfl ?_
          refine hv_geti dX4_parseSum_15 fl_X4_41 (by first | rfl | assumption) rfl ?_
          refine hv_if_ne (tgt := 76) dX4_parseSum_18 (by decide) (fun c_18 => absurd (h1) c_18) (fun c_18 => ?_)
          refine hv_aload_n dX4_parseSum_21 rfl ?_
          refine hv_bipush (v := 29) dX4_parseSum_22 (by decide) ?_
          refine hv_bipush (v := 30) dX4_parseSum_24 (by decide) ?_
          refine hv_cv2 (c_isOne) dX4_parseSum_26 ml_X4_90 mk_X4_isOne (by first | rfl | assumption) rfl rfl rfl rfl rfl ?_
          rintro _ _ _ _ ⟨rfl, rfl, rfl, rfl⟩
          rw [h3]
          refine hv_if_eq (tgt := 76) dX4_parseSum_29 (by decide) (fun c_29 => ?_) (fun c_29 => ?_)
          · have hop : ¬ (kd f n a = 29 ∨ kd f n a = 30) := fun q => of_decide_eq_false (bI_0 c_29) (by rcases q with q | q; exact Or.inl (by rw [q]; rfl); exact Or.inr (by rw [q]; rfl))
            rw [if_neg hop] at hr
            refine hv_vret dX4_parseSum_76 rfl ?_
            rw [← hr]; exact ⟨rfl, rfl, rfl, hσ, hk, hp2, hp3, hp4⟩
          · have hop : kd f n a = 29 ∨ kd f n a = 30 := by
              rcases of_decide_eq_true (bI_1 c_29) with q | q
              · exact Or.inl ((nI_eq (b := 29) (by omega) (by decide)).mp q)
              · exact Or.inr ((nI_eq (b := 30) (by omega) (by decide)).mp q)
            rw [if_pos hop] at hr
            refine hv_aload_n dX4_parseSum_32 rfl ?_
            refine hv_geti dX4_parseSum_33 fl_X4_29 (by first | rfl | assumption) rfl ?_
            refine hv_bipush (v := 29) dX4_parseSum_36 (by decide) ?_
            rw [h3]
            refine hv_icmp_ne (tgt := 45) dX4_parseSum_38 (by decide) (fun c_38 => ?_) (fun c_38 => ?_)
            · rw [if_neg (fun q => c_38 (by rw [q]; rfl))] at ho
              refine hv_iconst (v := 3) dX4_parseSum_45 (by decide) ?_
              refine hv_str (congrArg (fun z => [Value.int z]) ho) ?_
              refine hv_istore_n dX4_parseSum_46 rfl rfl ?_
              exact go none (Or.inl rfl) hop hr
            · rw [if_pos ((nI_eq (b := 29) (by omega) (by decide)).mp c_38)] at ho
              refine hv_iconst (v := 2) dX4_parseSum_41 (by decide) ?_
              refine hv_goto (tgt := 46) dX4_parseSum_42 (by decide) ?_
              refine hv_str (congrArg (fun z => [Value.int z]) ho) ?_
              refine hv_istore_n dX4_parseSum_46 rfl rfl ?_
              exact go none (Or.inl rfl) hop hr
  refine hv_aload_n dX4_parseSum_0 rfl ?_
  refine hv_iload_n dX4_parseSum_1 rfl ?_
  refine hv_cv1 (call ht hs hz) dX4_parseSum_2 ml_X4_87 mk_X4_parseProduct (by first | rfl | assumption) rfl rfl rfl rfl rfl ?_
  rintro _ _ σ1 _ ⟨rfl, rfl, rfl, q1, q2, q3⟩
  refine hv_iconst (v := 0) dX4_parseSum_5 (by decide) ?_
  refine hv_istore_n dX4_parseSum_6 rfl rfl ?_
  exact loop 401 0 (bd s (fun a _ => U a)) _ σ1 none (by omega) (Or.inl rfl) q1 q2 q3 (by rw [bd_assoc])
end S76

