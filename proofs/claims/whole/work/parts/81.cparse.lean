theorem bd_unit (r : hPR Unit) : bd r (fun a _ => (Sum.inr (a, ()) : hPR Unit)) = r := by
  rcases r with e | ⟨a, u⟩
  · rfl
  · cases u; rfl
theorem stR_bdn {α β : Type} (r : hPR α) (c : β) : stR (bd r (fun a _ => (Sum.inr (a, c) : hPR β))) = stR r := by
  rcases r with e | ⟨a, u⟩ <;> rfl
theorem stR_unit (r : hPR Unit) : stR r = r := bd_unit r
/-- what a TELL leaves with the class's parser -/
def pTl (f : hF) (n h r m a : Nat) (L : hLs) (T : hPR (Option (Nat × hLw))) (σ σ' : hS) : Prop := pSt f n (stR T) σ' ∧ match T with
  | .inl _ => pLg σ σ'
  | .inr (a', l) => σ' 7 3 = nI (cnt (kd f n) 0 h a) ∧ σ' 7 4 = nI (cnt (kd f n) 1 r a) ∧ σ' 7 5 = nI (cnt (kd f n) 2 m a) ∧ ∃ sz', lawsC (setL L l) sz' σ' ∧ sz' ≤ 10 + a'
section S81
variable {G : hGl} {σ : hS} {τ : hT} {x y : Option Nat}
theorem cnt_y {K : Nat → Nat} {k z a : Nat} (h : K a = k) : cnt K k z a = z + 1 := if_pos h
theorem cnt_n {K : Nat → Nat} {k z a : Nat} (h : ¬ K a = k) : cnt K k z a = z := if_neg h
/-- a TELL that is no LAW -/
theorem pTl_no {f : hF} {n sz h r m a : Nat} {L : hLs} {T : hPR (Option (Nat × hLw))} {σ σ' : hS} (ho : okG (kd f n) a (tlP (kd f n) a) T) (hT : ∃ U : hPR Unit, T = bd U (fun a _ => .inr (a, none)) ∧ pSt f n U σ') (hL : lawsC L sz σ) (hsz : sz ≤ 10 + a) (ha : a ≤ 400) (hσ : ∀ c, c ∉ [7] → σ' c = σ c) (hc : σ' 7 3 = nI (cnt (kd f n) 0 h a) ∧ σ' 7 4 = nI (cnt (kd f n) 1 r a) ∧ σ' 7 5 = nI (cnt (kd f n) 2 m a)) : pTl f n h r m a L T σ σ' := by
  obtain ⟨U, rfl, hU⟩ := hT
  refine ⟨by rw [stR_bdn, stR_unit]; exact hU, ?_⟩
  rcases U with e | ⟨a', u⟩
  · exact ⟨fun j hj => by rw [hσ 58 (by decide)], sz, by omega, by rw [hσ 58 (by decide)]; exact hL.1⟩
  · exact ⟨hc.1, hc.2.1, hc.2.2, sz, lawsC_of hL (hσ 58 (by decide)) (hσ 59 (by decide)) (hσ 60 (by decide)) (hσ 61 (by decide)), by have := ho.1; omega⟩
set_option maxRecDepth 100000 in
/-- one TELL in the loop of parse -/
theorem v_tell {f : hF} {n sz h r m a : Nat} {L : hLs} {i : Int32} {Q : hPo} (ht : tokC f n σ) (hs : pSt f n (.inr (a, ())) σ) (h3 : σ 7 3 = nI h) (h4 : σ 7 4 = nI r) (h5 : σ 7 5 = nI m) (hh : h ≤ 400 ∧ r ≤ 400 ∧ m ≤ 400) (hL : lawsC L sz σ) (hsz : sz ≤ 10 + a) (hk : kd f n a ≠ 25) (kk : ∀ σ' : hS, (∀ c, c ∉ xLa → σ' c = σ c) → pTl f n h r m a L (tellX (kd f n) (vl f n) h r m a) σ σ' → hV G (m_X4_parse Q) 0 0 shp 171 [some (.ref (hgA G 7)), some (.ref (hgA G 58)), some (.int i)] [] (rr 38 51 (some 58) y) σ' τ) : hV G (m_X4_parse Q) 0 0 shp 67 [some (.ref (hgA G 7)), some (.ref (hgA G 58)), some (.int i)] [] (rr 38 51 (some 58) y) σ τ := by
  have ha := hs.2.2.2.1
  have hkl := kd_le f n a
  have hok := tellX_ok (kd f n) (vl f n) h r m a ha
  obtain ⟨T, hT⟩ : ∃ T, tellX (kd f n) (vl f n) h r m a = T := ⟨_, rfl⟩
  rw [hT] at hok kk
  unfold tellX at hT
  have hn := hs.2.2.1
  refine hv_aload_n dX4_parse_67 rfl ?_
  refine hv_geti dX4_parse_68 fl_X4_29 (by first | rfl | assumption) rfl ?_
  rw [hn]
  refine hv_if_ne (tgt := 81) dX4_parse_71 (by decide) (fun c_71 => ?_) (fun c_71 => ?_)
  · have k0 : ¬ kd f n a = 0 := fun q => c_71 (by rw [q]; rfl)
    rw [if_neg k0] at hT
    refine hv_aload_n dX4_parse_81 rfl ?_
    refine hv_geti dX4_parse_82 fl_X4_29 (by first | rfl | assumption) rfl ?_
    refine hv_iconst (v := 1) dX4_parse_85 (by decide) ?_
    rw [hn]
    refine hv_icmp_ne (tgt := 96) dX4_parse_86 (by decide) (fun c_86 => ?_) (fun c_86 => ?_)
    · have k1 : ¬ kd f n a = 1 := fun q => c_86 (by rw [q]; rfl)
      rw [if_neg k1] at hT
      refine hv_aload_n dX4_parse_96 rfl ?_
      refine hv_geti dX4_parse_97 fl_X4_29 (by first | rfl | assumption) rfl ?_
      refine hv_iconst (v := 2) dX4_parse_100 (by decide) ?_
      rw [hn]
      refine hv_icmp_ne (tgt := 111) dX4_parse_101 (by decide) (fun c_101 => ?_) (fun c_101 => ?_)
      · have k2 : ¬ kd f n a = 2 := fun q => c_101 (by rw [q]; rfl)
        rw [if_neg k2] at hT
        refine hv_aload_n dX4_parse_111 rfl ?_
        refine hv_geti dX4_parse_112 fl_X4_29 (by first | rfl | assumption) rfl ?_
        refine hv_iconst (v := 3) dX4_parse_115 (by decide) ?_
        rw [hn]
        refine hv_icmp_lt (tgt := 141) dX4_parse_116 (by decide) (fun c_116 => ?_) (fun c_116 => ?_)
        · have k3 : ¬ (3 ≤ kd f n a ∧ kd f n a ≤ 7) := fun q => by have := (nI_ltI (b := 3) (by omega) (by decide)).mp c_116; omega
          rw [if_neg k3] at hT
          refine hv_aload_n dX4_parse_141 rfl ?_
          refine hv_geti dX4_parse_142 fl_X4_29 (by first | rfl | assumption) rfl ?_
          refine hv_bipush (v := 8) dX4_parse_145 (by decide) ?_
          rw [hn]
          refine hv_icmp_lt (tgt := 166) dX4_parse_147 (by decide) (fun c_147 => ?_) (fun c_147 => ?_)
          · have k4 : ¬ (8 ≤ kd f n a ∧ kd f n a ≤ 10) := fun q => by have := (nI_ltI (b := 8) (by omega) (by decide)).mp c_147; omega
            rw [if_neg k4] at hT
            refine hv_aload_n dX4_parse_166 rfl ?_
            refine hv_iconst (v := 1) dX4_parse_167 (by decide) ?_
            refine hv_cv1 (c_pfail) dX4_parse_168 ml_X4_60 mk_X4_fail (by first | rfl | assumption) rfl rfl rfl rfl rfl ?_
            rintro _ _ _ _ ⟨rfl, rfl, rfl, rfl⟩
            have o1 : ∀ c, c ∉ [7] → (va_up σ 7 (upd (σ 7) 7 (if σ 7 7 = 0 then 1 else σ 7 7))) c = σ c := off_up (fun _ _ => rfl) (by decide)
            have hfin : pTl f n h r m a L T σ (va_up σ 7 (upd (σ 7) 7 (if σ 7 7 = 0 then 1 else σ 7 7))) := by
              rw [← hT]
              exact ⟨st_fail (v := 1) (Or.inl rfl) hs, fun j hj => by rw [hva_ne (by decide)], sz, by omega, by rw [hva_ne (by decide)]; exact hL.1⟩
            first
              | exact kk _ hfin.1 hfin.2
              | exact kk _ (off_wk o1 (by decide)) hfin
          · refine hv_aload_n dX4_parse_150 rfl ?_
            refine hv_geti dX4_parse_151 fl_X4_29 (by first | rfl | assumption) rfl ?_
            refine hv_bipush (v := 10) dX4_parse_154 (by decide) ?_
            rw [hn]
            refine hv_icmp_gt (tgt := 166) dX4_parse_156 (by decide) (fun c_156 => ?_) (fun c_156 => ?_)
            · have k4 : ¬ (8 ≤ kd f n a ∧ kd f n a ≤ 10) := fun q => by have := (nI_ltI (a := 10) (by decide) (by omega)).mp c_156; omega
              rw [if_neg k4] at hT
              refine hv_aload_n dX4_parse_166 rfl ?_
              refine hv_iconst (v := 1) dX4_parse_167 (by decide) ?_
              refine hv_cv1 (c_pfail) dX4_parse_168 ml_X4_60 mk_X4_fail (by first | rfl | assumption) rfl rfl rfl rfl rfl ?_
              rintro _ _ _ _ ⟨rfl, rfl, rfl, rfl⟩
              have o1 : ∀ c, c ∉ [7] → (va_up σ 7 (upd (σ 7) 7 (if σ 7 7 = 0 then 1 else σ 7 7))) c = σ c := off_up (fun _ _ => rfl) (by decide)
              have hfin : pTl f n h r m a L T σ (va_up σ 7 (upd (σ 7) 7 (if σ 7 7 = 0 then 1 else σ 7 7))) := by
                rw [← hT]
                exact ⟨st_fail (v := 1) (Or.inl rfl) hs, fun j hj => by rw [hva_ne (by decide)], sz, by omega, by rw [hva_ne (by decide)]; exact hL.1⟩
              first
                | exact kk _ hfin.1 hfin.2
                | exact kk _ (off_wk o1 (by decide)) hfin
            · have k4 : 8 ≤ kd f n a ∧ kd f n a ≤ 10 := ⟨(nI_leI (a := 8) (by decide) (by omega)).mp (Int32.not_lt.mp c_147), (nI_leI (b := 10) (by omega) (by decide)).mp (Int32.not_lt.mp c_156)⟩
              rw [if_pos k4] at hT
              refine hv_aload_n dX4_parse_159 rfl ?_
              refine hv_cv0 (c_parseNumber (f := f) (n := n) (s := .inr (a, ())) ht hs (fun b w q => by cases q; omega)) dX4_parse_160 ml_X4_57 mk_X4_parseNumber (by first | rfl | assumption) rfl rfl rfl rfl rfl ?_
              rintro _ _ σ1 _ ⟨rfl, rfl, rfl, o1, a2, a3⟩
              have hfin : pTl f n h r m a L T σ σ1 := by
                refine pTl_no hok ⟨_, ?_, a3⟩ hL hsz ha o1 ⟨?_, ?_, ?_⟩
                · rw [← hT]; simp only [bd_assoc, bd_inr]
                · rw [a2 3 (by decide) (by decide) (by decide), cnt_n k0]; exact h3
                · rw [a2 4 (by decide) (by decide) (by decide), cnt_n k1]; exact h4
                · rw [a2 5 (by decide) (by decide) (by decide), cnt_n k2]; exact h5
              refine hv_goto (tgt := 171) dX4_parse_163 (by decide) ?_
              first
                | exact kk _ hfin.1 hfin.2
                | exact kk _ (off_wk o1 (by decide)) hfin
        · refine hv_aload_n dX4_parse_119 rfl ?_
          refine hv_geti dX4_parse_120 fl_X4_29 (by first | rfl | assumption) rfl ?_
          refine hv_bipush (v := 7) dX4_parse_123 (by decide) ?_
          rw [hn]
          refine hv_icmp_gt (tgt := 141) dX4_parse_125 (by decide) (fun c_125 => ?_) (fun c_125 => ?_)
          · have k3 : ¬ (3 ≤ kd f n a ∧ kd f n a ≤ 7) := fun q => by have := (nI_ltI (a := 7) (by decide) (by omega)).mp c_125; omega
            rw [if_neg k3] at hT
            refine hv_aload_n dX4_parse_141 rfl ?_
            refine hv_geti dX4_parse_142 fl_X4_29 (by first | rfl | assumption) rfl ?_
            refine hv_bipush (v := 8) dX4_parse_145 (by decide) ?_
            rw [hn]
            refine hv_icmp_lt (tgt := 166) dX4_parse_147 (by decide) (fun c_147 => ?_) (fun c_147 => ?_)
            · have k4 : ¬ (8 ≤ kd f n a ∧ kd f n a ≤ 10) := fun q => by have := (nI_ltI (b := 8) (by omega) (by decide)).mp c_147; omega
              rw [if_neg k4] at hT
              refine hv_aload_n dX4_parse_166 rfl ?_
              refine hv_iconst (v := 1) dX4_parse_167 (by decide) ?_
              refine hv_cv1 (c_pfail) dX4_parse_168 ml_X4_60 mk_X4_fail (by first | rfl | assumption) rfl rfl rfl rfl rfl ?_
              rintro _ _ _ _ ⟨rfl, rfl, rfl, rfl⟩
              have o1 : ∀ c, c ∉ [7] → (va_up σ 7 (upd (σ 7) 7 (if σ 7 7 = 0 then 1 else σ 7 7))) c = σ c := off_up (fun _ _ => rfl) (by decide)
              have hfin : pTl f n h r m a L T σ (va_up σ 7 (upd (σ 7) 7 (if σ 7 7 = 0 then 1 else σ 7 7))) := by
                rw [← hT]
                exact ⟨st_fail (v := 1) (Or.inl rfl) hs, fun j hj => by rw [hva_ne (by decide)], sz, by omega, by rw [hva_ne (by decide)]; exact hL.1⟩
              first
                | exact kk _ hfin.1 hfin.2
                | exact kk _ (off_wk o1 (by decide)) hfin
            · refine hv_aload_n dX4_parse_150 rfl ?_
              refine hv_geti dX4_parse_151 fl_X4_29 (by first | rfl | assumption) rfl ?_
              refine hv_bipush (v := 10) dX4_parse_154 (by decide) ?_
              rw [hn]
              refine hv_icmp_gt (tgt := 166) dX4_parse_156 (by decide) (fun c_156 => ?_) (fun c_156 => ?_)
              · have k4 : ¬ (8 ≤ kd f n a ∧ kd f n a ≤ 10) := fun q => by have := (nI_ltI (a := 10) (by decide) (by omega)).mp c_156; omega
                rw [if_neg k4] at hT
                refine hv_aload_n dX4_parse_166 rfl ?_
                refine hv_iconst (v := 1) dX4_parse_167 (by decide) ?_
                refine hv_cv1 (c_pfail) dX4_parse_168 ml_X4_60 mk_X4_fail (by first | rfl | assumption) rfl rfl rfl rfl rfl ?_
                rintro _ _ _ _ ⟨rfl, rfl, rfl, rfl⟩
                have o1 : ∀ c, c ∉ [7] → (va_up σ 7 (upd (σ 7) 7 (if σ 7 7 = 0 then 1 else σ 7 7))) c = σ c := off_up (fun _ _ => rfl) (by decide)
                have hfin : pTl f n h r m a L T σ (va_up σ 7 (upd (σ 7) 7 (if σ 7 7 = 0 then 1 else σ 7 7))) := by
                  rw [← hT]
                  exact ⟨st_fail (v := 1) (Or.inl rfl) hs, fun j hj => by rw [hva_ne (by decide)], sz, by omega, by rw [hva_ne (by decide)]; exact hL.1⟩
                first
                  | exact kk _ hfin.1 hfin.2
                  | exact kk _ (off_wk o1 (by decide)) hfin
              · have k4 : 8 ≤ kd f n a ∧ kd f n a ≤ 10 := ⟨(nI_leI (a := 8) (by decide) (by omega)).mp (Int32.not_lt.mp c_147), (nI_leI (b := 10) (by omega) (by decide)).mp (Int32.not_lt.mp c_156)⟩
                rw [if_pos k4] at hT
                refine hv_aload_n dX4_parse_159 rfl ?_
                refine hv_cv0 (c_parseNumber (f := f) (n := n) (s := .inr (a, ())) ht hs (fun b w q => by cases q; omega)) dX4_parse_160 ml_X4_57 mk_X4_parseNumber (by first | rfl | assumption) rfl rfl rfl rfl rfl ?_
                rintro _ _ σ1 _ ⟨rfl, rfl, rfl, o1, a2, a3⟩
                have hfin : pTl f n h r m a L T σ σ1 := by
                  refine pTl_no hok ⟨_, ?_, a3⟩ hL hsz ha o1 ⟨?_, ?_, ?_⟩
                  · rw [← hT]; simp only [bd_assoc, bd_inr]
                  · rw [a2 3 (by decide) (by decide) (by decide), cnt_n k0]; exact h3
                  · rw [a2 4 (by decide) (by decide) (by decide), cnt_n k1]; exact h4
                  · rw [a2 5 (by decide) (by decide) (by decide), cnt_n k2]; exact h5
                refine hv_goto (tgt := 171) dX4_parse_163 (by decide) ?_
                first
                  | exact kk _ hfin.1 hfin.2
                  | exact kk _ (off_wk o1 (by decide)) hfin
          · have k3 : 3 ≤ kd f n a ∧ kd f n a ≤ 7 := ⟨(nI_leI (a := 3) (by decide) (by omega)).mp (Int32.not_lt.mp c_116), (nI_leI (b := 7) (by omega) (by decide)).mp (Int32.not_lt.mp c_125)⟩
            rw [if_pos k3] at hT
            refine hv_aload_n dX4_parse_128 rfl ?_
            refine hv_aload_n dX4_parse_129 rfl ?_
            refine hv_geti dX4_parse_130 fl_X4_29 (by first | rfl | assumption) rfl ?_
            refine hv_iconst (v := 3) dX4_parse_133 (by decide) ?_
            refine hv_isub dX4_parse_134 ?_
            rw [hn, show nI (kd f n a) - 3 = nI (kd f n a - 3) from pk_sub (b := 3) k3.1]
            refine hv_cv1 (c_parseLaw (sz := sz) ht hs ⟨hL.1, by omega, fun b w q => by cases q; exact hsz⟩ (by omega) (fun b w q => by cases q; omega)) dX4_parse_135 ml_X4_53 mk_X4_parseLaw (by first | rfl | assumption) rfl rfl rfl rfl rfl ?_
            rintro _ _ σ1 _ ⟨rfl, rfl, rfl, a1, a2, a3, a4⟩
            have hfin : (∀ c, c ∉ xLa → σ1 c = σ c) ∧ pTl f n h r m a L T σ σ1 := by
              refine ⟨a1, ?_⟩
              rw [bd_inr] at a3 a4
              rw [← bd_assoc] at hT a3
              obtain ⟨R, hR⟩ : ∃ R, bd (pass a) (fun a1 _ => lawX (kd f n) (vl f n) a1) = R := ⟨_, rfl⟩
              rw [hR] at hT a3 a4
              subst hT
              rcases R with e | ⟨a', l⟩
              · exact ⟨a3.1, a3.2⟩
              · refine ⟨a3.1, ?_, ?_, ?_, sz + (encL sz l).length, lawsC_s hL a3.2.1 (a4 a' l rfl), by have := a3.2.2; omega⟩
                · rw [a2 3 (by decide) (by decide) (by decide), cnt_n k0]; exact h3
                · rw [a2 4 (by decide) (by decide) (by decide), cnt_n k1]; exact h4
                · rw [a2 5 (by decide) (by decide) (by decide), cnt_n k2]; exact h5
            refine hv_goto (tgt := 171) dX4_parse_138 (by decide) ?_
            first
              | exact kk _ hfin.1 hfin.2
              | exact kk _ (off_wk o1 (by decide)) hfin
      · have k2 : kd f n a = 2 := (nI_eq (b := 2) (by omega) (by decide)).mp c_101
        rw [if_pos k2] at hT
        refine hv_aload_n dX4_parse_104 rfl ?_
        refine hv_cv0 (c_parseMotion (f := f) (n := n) (s := .inr (a, ())) (m := m) ht hs (fun b w q => by cases q; rw [k2]; decide) h5 (by omega)) dX4_parse_105 ml_X4_50 mk_X4_parseMotion (by first | rfl | assumption) rfl rfl rfl rfl rfl ?_
        rintro _ _ σ1 _ ⟨rfl, rfl, rfl, o1, a2, a3⟩
        have hfin : pTl f n h r m a L T σ σ1 := by
          refine pTl_no hok ⟨_, ?_, a3⟩ hL hsz ha o1 ⟨?_, ?_, ?_⟩
          · rw [← hT]
            unfold srt moX
            by_cases c : 5 ≤ m
            · rw [if_pos c, bd_inr, decide_eq_false (by omega), if_neg (by decide)]; rfl
            · rw [if_neg c, bd_inr, decide_eq_true (by omega), if_pos rfl]; simp only [bd_assoc]
          · rw [a2 3 (by decide) (by decide) (by decide), cn7_at, pk_un (by decide), cnt_n k0]; exact h3
          · rw [a2 4 (by decide) (by decide) (by decide), cn7_at, pk_un (by decide), cnt_n k1]; exact h4
          · rw [a2 5 (by decide) (by decide) (by decide), cn7_at, pk_us, cnt_y k2]
        refine hv_goto (tgt := 171) dX4_parse_108 (by decide) ?_
        first
          | exact kk _ hfin.1 hfin.2
          | exact kk _ (off_wk o1 (by decide)) hfin
    · have k1 : kd f n a = 1 := (nI_eq (b := 1) (by omega) (by decide)).mp c_86
      rw [if_pos k1] at hT
      refine hv_aload_n dX4_parse_89 rfl ?_
      refine hv_cv0 (c_parseHearing (f := f) (n := n) (s := .inr (a, ())) (r := r) ht hs (fun b w q => by cases q; rw [k1]; decide) h4 (by omega)) dX4_parse_90 ml_X4_47 mk_X4_parseHearing (by first | rfl | assumption) rfl rfl rfl rfl rfl ?_
      rintro _ _ σ1 _ ⟨rfl, rfl, rfl, o1, a2, a3⟩
      have hfin : pTl f n h r m a L T σ σ1 := by
        refine pTl_no hok ⟨_, ?_, a3⟩ hL hsz ha o1 ⟨?_, ?_, ?_⟩
        · rw [← hT]
          unfold srt hrX
          by_cases c : 16 ≤ r
          · rw [if_pos c, bd_inr, decide_eq_false (by omega), if_neg (by decide)]; rfl
          · rw [if_neg c, bd_inr, decide_eq_true (by omega), if_pos rfl]; simp only [bd_assoc]
        · rw [a2 3 (by decide) (by decide) (by decide), cn7_at, pk_un (by decide), cnt_n k0]; exact h3
        · rw [a2 4 (by decide) (by decide) (by decide), cn7_at, pk_us, cnt_y k1]
        · rw [a2 5 (by decide) (by decide) (by decide), cn7_at, pk_un (by decide), cnt_n (by rw [k1]; decide)]; exact h5
      refine hv_goto (tgt := 171) dX4_parse_93 (by decide) ?_
      first
        | exact kk _ hfin.1 hfin.2
        | exact kk _ (off_wk o1 (by decide)) hfin
  · have k0 : kd f n a = 0 := (nI_eq (b := 0) (by omega) (by decide)).mp c_71
    rw [if_pos k0] at hT
    refine hv_aload_n dX4_parse_74 rfl ?_
    refine hv_cv0 (c_parseHouse (f := f) (n := n) (s := .inr (a, ())) (h := h) ht hs (fun b w q => by cases q; rw [k0]; decide) h3 (by omega)) dX4_parse_75 ml_X4_44 mk_X4_parseHouse (by first | rfl | assumption) rfl rfl rfl rfl rfl ?_
    rintro _ _ σ1 _ ⟨rfl, rfl, rfl, o1, a2, a3⟩
    have hfin : pTl f n h r m a L T σ σ1 := by
      refine pTl_no hok ⟨_, ?_, a3⟩ hL hsz ha o1 ⟨?_, ?_, ?_⟩
      · rw [← hT]
        unfold srt hsX
        by_cases c : 7 ≤ h
        · rw [if_pos c, bd_inr, decide_eq_false (by omega), if_neg (by decide)]; rfl
        · rw [if_neg c, bd_inr, decide_eq_true (by omega), if_pos rfl]; simp only [bd_assoc]
      · rw [a2 3 (by decide) (by decide) (by decide), cn7_at, pk_us, cnt_y k0]
      · rw [a2 4 (by decide) (by decide) (by decide), cn7_at, pk_un (by decide), cnt_n (by rw [k0]; decide)]; exact h4
      · rw [a2 5 (by decide) (by decide) (by decide), cn7_at, pk_un (by decide), cnt_n (by rw [k0]; decide)]; exact h5
    refine hv_goto (tgt := 171) dX4_parse_78 (by decide) ?_
    first
      | exact kk _ hfin.1 hfin.2
      | exact kk _ (off_wk o1 (by decide)) hfin
theorem textX_s (K V : Nat → Nat) (k a h r m : Nat) (L : hLs) : textX K V (k + 1) a h r m L = if K a = 25 then .inr (a, (h, r, m, L)) else bd (tellX K V h r m a) (fun b l => textX K V k b (cnt K 0 h a) (cnt K 1 r a) (cnt K 2 m a) (setL L l)) := rfl
/-- what the class's parser finds -/
def pTx (f : hF) (n : Nat) (T : hPR (Nat × Nat × Nat × hLs)) (σ' : hS) : Prop := pSt f n (stR T) σ' ∧ ∀ a h r m L, T = .inr (a, (h, r, m, L)) → ∃ sz, lawsC L sz σ' ∧ sz ≤ 410
set_option maxRecDepth 100000 in
theorem c_parse {f : hF} {n sz : Nat} {L : hLs} (ht : tokC f n σ) (hL : lawsC L sz σ) (hsz : sz ≤ 10) : hCal G (m_X4_parse (fun v' r' σ' τ' => v' = none ∧ r' = rr 38 51 (some 58) y ∧ τ' = τ ∧ (∀ c, c ∉ xLa → σ' c = σ c) ∧ pTx f n (textX (kd f n) (vl f n) 401 0 0 0 0 L) σ')) [.ref (hgA G 7), .ref (hgA G 58)] shp (rr 38 51 x y) σ τ := by
  refine hv_enter pn_X4 rfl ?_
  have loop : ∀ k i (s : hPR Unit) h r m sz (L : hLs) T (σ1 : hS), i + k = 401 → h ≤ i → r ≤ i → m ≤ i → (∀ c, c ∉ xLa → σ1 c = σ c) → pSt f n s σ1 → (∀ a, s = .inr (a, ()) → σ1 7 3 = nI h ∧ σ1 7 4 = nI r ∧ σ1 7 5 = nI m ∧ lawsC L sz σ1 ∧ sz ≤ 10 + a) → bd s (fun a _ => textX (kd f n) (vl f n) k a h r m L) = T → hV G (m_X4_parse (fun v' r' σ' τ' => v' = none ∧ r' = rr 38 51 (some 58) y ∧ τ' = τ ∧ (∀ c, c ∉ xLa → σ' c = σ c) ∧ pTx f n T σ')) 0 0 shp 44 [some (.ref (hgA G 7)), some (.ref (hgA G 58)), some (.int (nI i))] [] (rr 38 51 (some 58) y) σ1 τ := by
    intro k
    induction k with
    | zero =>
      intro i s h r m sz L T σ1 hi hh hr hm hσ hs hc hT
      obtain rfl : i = 401 := by omega
      refine hv_iload_n dX4_parse_44 rfl ?_
      refine hv_sipush (v := 400) dX4_parse_45 (by decide) ?_
      refine hv_icmp_gt (tgt := 177) dX4_parse_48 (by decide) (fun c_48 => ?_) (fun c_48 => absurd ((by decide)) c_48)
      refine hv_vret dX4_parse_177 rfl ?_
      refine ⟨rfl, rfl, rfl, hσ, ?_⟩
      rw [← hT]
      rcases s with e | ⟨a, u⟩
      · exact ⟨hs, fun a h r m L q => nomatch q⟩
      · refine ⟨hs, fun a' h' r' m' L' q => ?_⟩
        cases q
        exact ⟨sz, (hc a rfl).2.2.2.1, by have := (hc a rfl).2.2.2.2; have := hs.2.2.2.1; omega⟩
    | succ k ih =>
      intro i s h r m sz L T σ1 hi hh hr hm hσ hs hc hT
      rcases s with ⟨v, t⟩ | ⟨a, u⟩
      · have hne : ¬ σ1 7 7 = 0 := by rw [hs.1]; exact nI_ne0 (by have := hs.2.1; omega) (by have := hs.2.1; omega)
        refine hv_iload_n dX4_parse_44 rfl ?_
        refine hv_sipush (v := 400) dX4_parse_45 (by decide) ?_
        refine hv_icmp_gt (tgt := 177) dX4_parse_48 (by decide) (fun c_48 => absurd c_48 ((nI_nlt (a := 400) (by omega) (by decide)))) (fun c_48 => ?_)
        refine hv_aload_n dX4_parse_51 rfl ?_
        refine hv_geti dX4_parse_52 fl_X4_41 (by first | rfl | assumption) rfl ?_
        refine hv_if_ne (tgt := 177) dX4_parse_55 (by decide) (fun c_55 => ?_) (fun c_55 => absurd c_55 (hne))
        refine hv_vret dX4_parse_177 rfl ?_
        refine ⟨rfl, rfl, rfl, hσ, ?_⟩
        rw [← hT]
        exact ⟨hs, fun a h r m L q => nomatch q⟩
      · have hkl := kd_le f n a
        cases u
        obtain ⟨c3, c4, c5, cL, csz⟩ := hc a rfl
        rw [bd_inr, textX_s] at hT
        by_cases c25 : kd f n a = 25
        · rw [if_pos c25] at hT
          refine hv_iload_n dX4_parse_44 rfl ?_
          refine hv_sipush (v := 400) dX4_parse_45 (by decide) ?_
          refine hv_icmp_gt (tgt := 177) dX4_parse_48 (by decide) (fun c_48 => absurd c_48 ((nI_nlt (a := 400) (by omega) (by decide)))) (fun c_48 => ?_)
          refine hv_aload_n dX4_parse_51 rfl ?_
          refine hv_geti dX4_parse_52 fl_X4_41 (by first | rfl | assumption) rfl ?_
          refine hv_if_ne (tgt := 177) dX4_parse_55 (by decide) (fun c_55 => absurd (hs.1) c_55) (fun c_55 => ?_)
          refine hv_aload_n dX4_parse_58 rfl ?_
          refine hv_geti dX4_parse_59 fl_X4_29 (by first | rfl | assumption) rfl ?_
          refine hv_bipush (v := 25) dX4_parse_62 (by decide) ?_
          rw [hs.2.2.1, c25]
          refine hv_icmp_eq (tgt := 177) dX4_parse_64 (by decide) (fun c_64 => ?_) (fun c_64 => absurd (rfl) c_64)
          refine hv_vret dX4_parse_177 rfl ?_
          refine ⟨rfl, rfl, rfl, hσ, ?_⟩
          rw [← hT]
          refine ⟨hs, fun a' h' r' m' L' q => ?_⟩
          cases q
          exact ⟨sz, cL, by have := hs.2.2.2.1; omega⟩
        · rw [if_neg c25] at hT
          refine hv_iload_n dX4_parse_44 rfl ?_
          refine hv_sipush (v := 400) dX4_parse_45 (by decide) ?_
          refine hv_icmp_gt (tgt := 177) dX4_parse_48 (by decide) (fun c_48 => absurd c_48 ((nI_nlt (a := 400) (by omega) (by decide)))) (fun c_48 => ?_)
          refine hv_aload_n dX4_parse_51 rfl ?_
          refine hv_geti dX4_parse_52 fl_X4_41 (by first | rfl | assumption) rfl ?_
          refine hv_if_ne (tgt := 177) dX4_parse_55 (by decide) (fun c_55 => absurd (hs.1) c_55) (fun c_55 => ?_)
          refine hv_aload_n dX4_parse_58 rfl ?_
          refine hv_geti dX4_parse_59 fl_X4_29 (by first | rfl | assumption) rfl ?_
          refine hv_bipush (v := 25) dX4_parse_62 (by decide) ?_
          rw [hs.2.2.1]
          refine hv_icmp_eq (tgt := 177) dX4_parse_64 (by decide) (fun c_64 => absurd c_64 ((fun q => c25 ((nI_eq (b := 25) (by omega) (by decide)).mp q)))) (fun c_64 => ?_)
          refine v_tell (sz := sz) (tokC_of ht hσ rfl) hs c3 c4 c5 (by omega) cL csz c25 (fun σ2 a1 a23 => ?_)
          obtain ⟨a2, a3⟩ := a23
          refine hv_iinc dX4_parse_171 rfl (nI_1 i) rfl rfl ?_
          refine hv_goto (tgt := 44) dX4_parse_174 (by decide) ?_
          obtain ⟨U, hU⟩ : ∃ U, tellX (kd f n) (vl f n) h r m a = U := ⟨_, rfl⟩
          rw [hU] at a2 a3 hT
          rcases U with e | ⟨a', l⟩
          · exact ih (i + 1) (.inl e) h r m sz L T σ2 (by omega) (by omega) (by omega) (by omega) (off_tr hσ a1 (by decide) (by decide)) a2 (fun _ q => nomatch q) hT
          · obtain ⟨b1, b2, b3, sz', b4, b5⟩ := a3
            exact ih (i + 1) (.inr (a', ())) _ _ _ sz' _ T σ2 (by omega) (by unfold cnt; split <;> omega) (by unfold cnt; split <;> omega) (by unfold cnt; split <;> omega) (off_tr hσ a1 (by decide) (by decide)) a2 (fun b q => by cases q; exact ⟨b1, b2, b3, b4, b5⟩) hT
  have hr0 : rel f n 0 := ⟨by omega, fun j hj => absurd hj (by omega)⟩
  refine hv_aload_n dX4_parse_0 rfl ?_
  refine hv_aload_n dX4_parse_1 rfl ?_
  refine hv_putr dX4_parse_2 fl_X4_15 (by first | rfl | assumption) rfl rfl rfl ?_
  rw [rr_px]
  refine hv_aload_n dX4_parse_5 rfl ?_
  refine hv_iconst (v := 0) dX4_parse_6 (by decide) ?_
  refine hv_puti dX4_parse_7 fl_X4_19 (by first | rfl | assumption) rfl rfl rfl ?_
  refine hv_aload_n dX4_parse_10 rfl ?_
  refine hv_aload_n dX4_parse_11 rfl ?_
  refine hv_getr dX4_parse_12 fl_X4_9 (by first | rfl | assumption) rfl (by first | rfl | assumption) ?_
  refine hv_iconst (v := 0) dX4_parse_15 (by decide) ?_
  refine hv_cv1 (c_kind (f := f) (n := n) (i := 0) (tokC_of ht (off_up (fun _ _ => rfl) (show [7].contains 7 = true by decide)) rfl) hr0) dX4_parse_16 ml_X4_23 mk_X9_kind (by first | rfl | assumption) rfl rfl rfl rfl rfl ?_
  rintro _ _ _ _ ⟨rfl, rfl, rfl, rfl⟩
  refine hv_puti dX4_parse_19 fl_X4_29 (by first | rfl | assumption) rfl rfl rfl ?_
  refine hv_aload_n dX4_parse_22 rfl ?_
  refine hv_iconst (v := 0) dX4_parse_23 (by decide) ?_
  refine hv_puti dX4_parse_24 fl_X4_32 (by first | rfl | assumption) rfl rfl rfl ?_
  refine hv_aload_n dX4_parse_27 rfl ?_
  refine hv_iconst (v := 0) dX4_parse_28 (by decide) ?_
  refine hv_puti dX4_parse_29 fl_X4_35 (by first | rfl | assumption) rfl rfl rfl ?_
  refine hv_aload_n dX4_parse_32 rfl ?_
  refine hv_iconst (v := 0) dX4_parse_33 (by decide) ?_
  refine hv_puti dX4_parse_34 fl_X4_38 (by first | rfl | assumption) rfl rfl rfl ?_
  refine hv_aload_n dX4_parse_37 rfl ?_
  refine hv_iconst (v := 0) dX4_parse_38 (by decide) ?_
  refine hv_puti dX4_parse_39 fl_X4_41 (by first | rfl | assumption) rfl rfl rfl ?_
  refine hv_iconst (v := 0) dX4_parse_42 (by decide) ?_
  refine hv_istore_n dX4_parse_43 rfl rfl ?_
  simp only [hup_up, hup_eq]
  refine loop 401 0 (.inr (0, ())) 0 0 0 sz L _ _ rfl (Nat.le_refl _) (Nat.le_refl _) (Nat.le_refl _) (off_up (fun _ _ => rfl) (by decide)) ⟨?_, ?_, ?_, hr0⟩ (fun a q => ?_) rfl
  · rw [hup_eq, pk_us]
  · rw [hup_eq, pk_un (by decide), pk_un (by decide), pk_un (by decide), pk_un (by decide), pk_un (by decide), pk_us]; rfl
  · rw [hup_eq, pk_un (by decide), pk_un (by decide), pk_un (by decide), pk_un (by decide), pk_us]
  · cases q
    refine ⟨?_, ?_, ?_, lawsC_of hL (hva_ne (by decide)) (hva_ne (by decide)) (hva_ne (by decide)) (hva_ne (by decide)), hsz⟩
    · rw [hup_eq, pk_un (by decide), pk_un (by decide), pk_un (by decide), pk_us]; rfl
    · rw [hup_eq, pk_un (by decide), pk_un (by decide), pk_us]; rfl
    · rw [hup_eq, pk_un (by decide), pk_us]; rfl
end S81

