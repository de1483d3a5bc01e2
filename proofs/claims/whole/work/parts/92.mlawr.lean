abbrev m_X12_tellLaw (Q : hPo) : hMe := (hrm 5, 0, 0, yX12_tellLaw, cX12_tellLaw, 4, (none : Option FieldType), shp, none, Q)
section S92
variable {G : hGl} {σ : hS} {τ : hT} {x y : Option Nat}
theorem d_exprU {f : hF} {n p0 hi : Nat} {s : hPR Unit} (ht : tokM f n σ τ) (hs : mSt f n s σ) (ho : ∀ a u, s = .inr (a, u) → σ 64 43 = nI p0 ∧ σ 64 12 = 0 ∧ p0 + 407 ≤ hi + a) (hh : hi ≤ 840) : hCal G (m_X12_expression (hQp xYd none (rr 38 51 x y) σ τ (pExM f n p0 hi (bd s (fun a _ => eX (kd f n) (vl f n) a)) σ))) [.ref (hgA G 64)] shp (rr 38 51 x y) σ τ := by
  rcases s with e | ⟨a, u⟩
  · have hs' := hs
    obtain ⟨z, t⟩ := e
    obtain ⟨h1, h2, h3⟩ := hs
    refine hv_enter pn_X12 rfl ?_
    refine hv_aload_n dX12_expression_0 rfl ?_
    refine hv_iconst (v := 0) dX12_expression_1 (by decide) ?_
    refine hv_puti dX12_expression_2 fl_X12_302 (by first | rfl | assumption) rfl rfl rfl ?_
    refine hv_aload_n dX12_expression_5 rfl ?_
    refine hv_geti dX12_expression_6 fl_X12_230 (by first | rfl | assumption) rfl ?_
    refine hv_istore_n dX12_expression_9 rfl rfl ?_
    refine hv_iconst (v := 1) dX12_expression_10 (by decide) ?_
    refine hv_istore_n dX12_expression_11 rfl rfl ?_
    refine hv_iload_n dX12_expression_12 rfl ?_
    refine hv_if_eq (tgt := 272) dX12_expression_13 (by decide) (fun c_13 => absurd c_13 ((by decide))) (fun c_13 => ?_)
    refine hv_aload_n dX12_expression_16 rfl ?_
    refine hv_geti dX12_expression_17 fl_X12_203 (by first | rfl | assumption) rfl ?_
    refine hv_if_ne (tgt := 272) dX12_expression_20 (by decide) (fun c_20 => ?_) (fun c_20 => absurd c_20 ((by rw [hup_eq, pk_un (by decide), h1]; exact nI_ne0 (by omega) (by omega))))
    refine hv_vret dX12_expression_272 rfl ?_
    exact ⟨rfl, rfl, rfl, off_up (fun _ _ => rfl) (by decide), kM_up (by decide), cdF_e rfl rfl, mSt_of hs' (by rw [hup_eq, pk_un (by decide)]) (by rw [hup_eq, pk_un (by decide)]) (by rw [hup_eq, pk_un (by decide)]), fun b d q => (nomatch q)⟩
  · exact d_expression ht hs (ho a u rfl).1 (ho a u rfl).2.1 (ho a u rfl).2.2 hh
abbrev fTm : List Nat := [11, 12, 13, 14, 37, 43, 47]
/-- nothing but one place of a row -/
def atF (k b : Nat) (σ σ' : hS) : Prop := ∀ j, j ≠ b → σ' k j = σ k j
def pTm (f : hF) (n p b hi : Nat) (R : hPR hCd) (σ σ' : hS) : Prop := kM fTm σ σ' ∧ cdF p hi σ σ' ∧ mSt f n (stR R) σ' ∧ σ' 64 37 = nI (b + 1) ∧ atF 91 b σ σ' ∧ atF 92 b σ σ' ∧ ∀ a' d, R = .inr (a', d) → σ' 64 43 = nI (p + d.length) ∧ cdAt (σ' 93) (σ' 94) p d ∧ σ' 64 12 = 0 ∧ σ' 91 b = nI p ∧ σ' 92 b = nI (p + d.length)
theorem d_term {f : hF} {n p b hi : Nat} {s : hPR Unit} (ht : tokM f n σ τ) (hs : mSt f n s σ) (hb : σ 64 37 = nI b) (hb2 : b < 260) (ho : ∀ a u, s = .inr (a, u) → σ 64 43 = nI p ∧ σ 64 12 = 0 ∧ p + 407 ≤ hi + a) (hh : hi ≤ 840) : hCal G (m_X12_term (hQp [64, 91, 92, 93, 94, 95] none (rr 38 51 x y) σ τ (pTm f n p b hi (bd s (fun a _ => eX (kd f n) (vl f n) a)) σ))) [.ref (hgA G 64)] shp (rr 38 51 x y) σ τ := by
  refine hv_enter pn_X12 rfl ?_
  rcases s with e | ⟨a, u⟩
  · have hs' := hs
    obtain ⟨z, t⟩ := e
    obtain ⟨h1, h2, h3⟩ := hs
    refine hv_aload_n dX12_term_0 rfl ?_
    refine hv_getr dX12_term_1 fl_X12_98 (by first | rfl | assumption) rfl (by first | rfl | assumption) ?_
    refine hv_aload_n dX12_term_4 rfl ?_
    refine hv_geti dX12_term_5 fl_X12_242 (by first | rfl | assumption) rfl ?_
    refine hv_aload_n dX12_term_8 rfl ?_
    refine hv_geti dX12_term_9 fl_X12_245 (by first | rfl | assumption) rfl ?_
    refine hv_iast dX12_term_12 (by first | rfl | assumption) (j := b) hb hb2 (by first | decide | assumption) ?_
    refine hv_aload_n dX12_term_13 rfl ?_
    refine hv_geti dX12_term_14 fl_X12_203 (by first | rfl | assumption) rfl ?_
    refine hv_if_ne (tgt := 24) dX12_term_17 (by decide) (fun c_17 => ?_) (fun c_17 => absurd c_17 ((by show ¬ σ 64 13 = 0; rw [h1]; exact nI_ne0 (by omega) (by omega))))
    refine hv_aload_n dX12_term_24 rfl ?_
    refine hv_getr dX12_term_25 fl_X12_101 (by first | rfl | assumption) rfl (by first | rfl | assumption) ?_
    refine hv_aload_n dX12_term_28 rfl ?_
    refine hv_geti dX12_term_29 fl_X12_242 (by first | rfl | assumption) rfl ?_
    refine hv_aload_n dX12_term_32 rfl ?_
    refine hv_geti dX12_term_33 fl_X12_245 (by first | rfl | assumption) rfl ?_
    refine hv_iast dX12_term_36 (by first | rfl | assumption) (j := b) (by show σ 64 37 = _; exact hb) hb2 (by first | decide | assumption) ?_
    refine hv_aload_n dX12_term_37 rfl ?_
    refine hv_dup dX12_term_38 rfl ?_
    refine hv_geti dX12_term_39 fl_X12_242 (by first | rfl | assumption) rfl ?_
    refine hv_iconst (v := 1) dX12_term_42 (by decide) ?_
    refine hv_iadd dX12_term_43 ?_
    refine hv_puti dX12_term_44 fl_X12_242 (by first | rfl | assumption) rfl rfl rfl ?_
    refine hv_vret dX12_term_47 rfl ?_
    refine ⟨rfl, rfl, rfl, off_up (off_up (off_up (fun _ _ => rfl) (by decide)) (by decide)) (by decide), ?_, cdF_e rfl rfl, ?_, ?_, ?_, ?_, fun a' d q => (nomatch q)⟩
    · exact kM_tr (kM_c (kM_c kM_rf (X := []) (by decide)) (by decide)) (kM_up (X := [37]) (by decide)) (by decide) (by decide)
    · exact mSt_of hs' (by rw [hup_eq, pk_un (by decide)]; rfl) (by rw [hup_eq, pk_un (by decide)]; rfl) (by rw [hup_eq, pk_un (by decide)]; rfl)
    · rw [hup_eq, pk_us, ← nI_1, ← hb]; rfl
    · intro j hj; rw [hva_ne (by decide), hva_ne (by decide), hup_eq, pk_un hj]
    · intro j hj; rw [hva_ne (by decide), hup_eq, pk_un hj, hva_ne (by decide)]
  · have hs' := hs
    obtain ⟨h1, h2, h3⟩ := hs
    obtain ⟨hp, o1, o2⟩ := ho a u rfl
    refine hv_aload_n dX12_term_0 rfl ?_
    refine hv_getr dX12_term_1 fl_X12_98 (by first | rfl | assumption) rfl (by first | rfl | assumption) ?_
    refine hv_aload_n dX12_term_4 rfl ?_
    refine hv_geti dX12_term_5 fl_X12_242 (by first | rfl | assumption) rfl ?_
    refine hv_aload_n dX12_term_8 rfl ?_
    refine hv_geti dX12_term_9 fl_X12_245 (by first | rfl | assumption) rfl ?_
    refine hv_iast dX12_term_12 (by first | rfl | assumption) (j := b) hb hb2 (by first | decide | assumption) ?_
    refine hv_aload_n dX12_term_13 rfl ?_
    refine hv_geti dX12_term_14 fl_X12_203 (by first | rfl | assumption) rfl ?_
    refine hv_if_ne (tgt := 24) dX12_term_17 (by decide) (fun c_17 => absurd ((by show σ 64 13 = 0; exact h1)) c_17) (fun c_17 => ?_)
    refine hv_aload_n dX12_term_20 rfl ?_
    refine hv_cv0 (d_expression (u := u) (a0 := a) (p0 := p) (hi := hi) (tokM_of ht (off_up (X := [91]) (fun _ _ => rfl) (by decide)) rfl) (mSt_of hs' rfl rfl rfl) hp o1 o2 hh) dX12_term_21 ml_X12_296 mk_X12_expression (by first | rfl | assumption) rfl rfl rfl rfl rfl ?_
    rintro _ _ σ1 _ ⟨rfl, rfl, rfl, a1, a2, a3, a4, a5⟩
    have q37 : σ1 64 37 = nI b := by rw [a2 37 (by decide)]; exact hb
    refine hv_aload_n dX12_term_24 rfl ?_
    refine hv_getr dX12_term_25 fl_X12_101 (by first | rfl | assumption) rfl (by first | rfl | assumption) ?_
    refine hv_aload_n dX12_term_28 rfl ?_
    refine hv_geti dX12_term_29 fl_X12_242 (by first | rfl | assumption) rfl ?_
    refine hv_aload_n dX12_term_32 rfl ?_
    refine hv_geti dX12_term_33 fl_X12_245 (by first | rfl | assumption) rfl ?_
    refine hv_iast dX12_term_36 (by first | rfl | assumption) (j := b) q37 hb2 (by first | decide | assumption) ?_
    refine hv_aload_n dX12_term_37 rfl ?_
    refine hv_dup dX12_term_38 rfl ?_
    refine hv_geti dX12_term_39 fl_X12_242 (by first | rfl | assumption) rfl ?_
    refine hv_iconst (v := 1) dX12_term_42 (by decide) ?_
    refine hv_iadd dX12_term_43 ?_
    refine hv_puti dX12_term_44 fl_X12_242 (by first | rfl | assumption) rfl rfl rfl ?_
    refine hv_vret dX12_term_47 rfl ?_
    refine ⟨rfl, rfl, rfl, off_up (off_up (off_tr (off_up (X := [91]) (fun _ _ => rfl) (by decide)) a1 (by decide) (by decide)) (by decide)) (by decide), ?_, ?_, ?_, ?_, ?_, ?_, ?_⟩
    · exact kM_tr (kM_tr (kM_c kM_rf (X := []) (by decide)) a2 (Z := fTm) (by decide) (by decide)) (kM_tr (kM_c kM_rf (X := []) (by decide)) (kM_up (X := [37]) (by decide)) (Z := fTm) (by decide) (by decide)) (by decide) (by decide)
    · exact cdF_tr (cdF_tr (cdF_e (σ' := va_up σ 91 _) rfl rfl) a3 (Nat.le_refl _)) (cdF_e rfl rfl) (Nat.le_refl _)
    · exact mSt_of a4 (by rw [hup_eq, pk_un (by decide)]; rfl) (by rw [hup_eq, pk_un (by decide)]; rfl) (by rw [hup_eq, pk_un (by decide)]; rfl)
    · rw [hup_eq, pk_us, hva_ne (by decide), q37, nI_1]
    · intro j hj; rw [hva_ne (by decide), hva_ne (by decide), a1 91 (by decide), hup_eq, pk_un hj]
    · intro j hj; rw [hva_ne (by decide), hup_eq, pk_un hj, a1 92 (by decide), hva_ne (by decide)]
    · intro a' d q
      obtain ⟨z1, z2, z3⟩ := a5 a' d q
      refine ⟨by rw [hup_eq, pk_un (by decide)]; exact z1, z2, by rw [hup_eq, pk_un (by decide)]; exact z3, ?_, ?_⟩
      · rw [hva_ne (by decide), hva_ne (by decide), a1 91 (by decide), hup_eq, pk_us]; exact hp
      · rw [hva_ne (by decide), hup_eq, pk_us]; exact z1
end S92

