section S30
variable {G : hGl} {σ : hS} {τ : hT} {x y : Option Nat}
theorem c_proxy {h o nn : Nat} {a b : Int32} (h38 : σ 38 7 = nI h) (k2 : h ≤ 7) (hs5 : σ 11 5 = nI h) (hk : okK σ o nn) : hCal G (m_X11_proxy (fun v r' σ' τ' => rr 38 51 x y = r' ∧ τ = τ' ∧ ((¬ (isH h a = true ∧ (b = -1 ∨ isH h b = true)) ∧ v = some (.int 0) ∧ σ = σ') ∨ (∃ i, i < h ∧ a = nI i ∧ (b = -1 ∨ isH h b = true) ∧ ((a = b ∨ σ 16 i = b ∨ (¬ b = -1 ∧ (fHasP (σ 16) a h = true ∨ ¬ σ 16 b.toNatClampNeg = -1))) ∧ v = some (.int 0) ∧ σ = σ' ∨ ¬ (a = b ∨ σ 16 i = b ∨ (¬ b = -1 ∧ (fHasP (σ 16) a h = true ∨ ¬ σ 16 b.toNatClampNeg = -1))) ∧ v = some (.int 1) ∧ (∀ k, k ∉ [16, 17, 18] → σ' k = σ k) ∧ σ' 16 = upd (σ 16) i b ∧ pKp σ o nn σ'))))) [.ref (hgA G 0), .int a, .int b] shp (rr 38 51 x y) σ τ := by
  refine hv_enter pn_X11 rfl ?_
  refine hv_aload_n dX11_proxy_0 rfl ?_
  refine hv_iload_n dX11_proxy_1 rfl ?_
  refine hv_cv1 (c_isHouse h38) dX11_proxy_2 ml_X11_141 mk_X11_isHouse (by first | rfl | assumption) rfl rfl rfl rfl rfl ?_
  rintro _ _ _ _ ⟨rfl, rfl, rfl, rfl⟩
  refine hv_if_eq (tgt := 25) dX11_proxy_5 (by decide) (fun c_5 => ?_) (fun c_5 => ?_)
  · have hbad : ¬ (isH h a = true ∧ (b = -1 ∨ isH h b = true)) := fun qq => by rw [bI_0 c_5] at qq; exact absurd qq.1 (by decide)
    refine hv_iconst (v := 0) dX11_proxy_25 (by decide) ?_
    refine hv_istore_n dX11_proxy_26 rfl rfl ?_
    refine hv_iload_n dX11_proxy_27 rfl ?_
    refine hv_if_eq (tgt := 49) dX11_proxy_28 (by decide) (fun c_28 => ?_) (fun c_28 => ?_)
    · refine hv_iconst (v := 0) dX11_proxy_49 (by decide) ?_
      refine hv_zret dX11_proxy_50 rfl (by first | exact Or.inl rfl | exact Or.inr rfl | assumption) ?_
      first
        | exact ⟨rfl, rfl, Or.inl ⟨hbad, rfl, rfl⟩⟩
        | exact ⟨rfl, rfl, Or.inr ⟨i, hi, hai, hgd, Or.inl ⟨Or.inr (Or.inl c_46), rfl, rfl⟩⟩⟩
        | exact ⟨rfl, rfl, Or.inr ⟨i, hi, hai, hgd, Or.inl ⟨Or.inl c_33, rfl, rfl⟩⟩⟩
        | exact absurd c_28 (by decide)
    · obtain ⟨i, hi, hai⟩ := isH_ix k2 (bI_1 (by first | exact c_5 | exact absurd rfl c_28))
      have hgd : b = -1 ∨ isH h b = true := by first | exact Or.inl c_10 | exact Or.inr (bI_1 c_18) | exact absurd rfl c_28
      refine hv_iload_n dX11_proxy_31 rfl ?_
      refine hv_iload_n dX11_proxy_32 rfl ?_
      refine hv_icmp_eq (tgt := 49) dX11_proxy_33 (by decide) (fun c_33 => ?_) (fun c_33 => ?_)
      · refine hv_iconst (v := 0) dX11_proxy_49 (by decide) ?_
        refine hv_zret dX11_proxy_50 rfl (by first | exact Or.inl rfl | exact Or.inr rfl | assumption) ?_
        first
          | exact ⟨rfl, rfl, Or.inl ⟨hbad, rfl, rfl⟩⟩
          | exact ⟨rfl, rfl, Or.inr ⟨i, hi, hai, hgd, Or.inl ⟨Or.inr (Or.inl c_46), rfl, rfl⟩⟩⟩
          | exact ⟨rfl, rfl, Or.inr ⟨i, hi, hai, hgd, Or.inl ⟨Or.inl c_33, rfl, rfl⟩⟩⟩
          | exact absurd c_28 (by decide)
      · refine hv_aload_n dX11_proxy_36 rfl ?_
        refine hv_getr dX11_proxy_37 fl_X11_44 (by first | rfl | assumption) rfl (by first | rfl | assumption) ?_
        refine hv_getr dX11_proxy_40 fl_X11_163 (by first | rfl | assumption) rfl (by first | rfl | assumption) ?_
        refine hv_iload_n dX11_proxy_43 rfl ?_
        refine hv_iald dX11_proxy_44 (by first | rfl | assumption) (j := i) hai (by omega) (by first | decide | assumption) ?_
        refine hv_iload_n dX11_proxy_45 rfl ?_
        refine hv_icmp_ne (tgt := 51) dX11_proxy_46 (by decide) (fun c_46 => ?_) (fun c_46 => ?_)
        · refine hv_iload_n dX11_proxy_51 rfl ?_
          refine hv_iconst (v := -1) dX11_proxy_52 (by decide) ?_
          refine hv_icmp_eq (tgt := 82) dX11_proxy_53 (by decide) (fun c_53 => ?_) (fun c_53 => ?_)
          · have hb1 : b = -1 := c_53
            refine hv_aload_n dX11_proxy_82 rfl ?_
            refine hv_getr dX11_proxy_83 fl_X11_51 (by first | rfl | assumption) rfl (by first | rfl | assumption) ?_
            refine hv_aload_n dX11_proxy_86 rfl ?_
            refine hv_getr dX11_proxy_87 fl_X11_44 (by first | rfl | assumption) rfl (by first | rfl | assumption) ?_
            refine hv_cv1 (c_kp hk) dX11_proxy_90 ml_X11_196 mk_X5_keep (by first | rfl | assumption) rfl rfl rfl rfl rfl ?_
            rintro _ _ σ1 _ ⟨rfl, rfl, rfl, hq1, hq2⟩
            refine hv_aload_n dX11_proxy_93 rfl ?_
            refine hv_getr dX11_proxy_94 fl_X11_44 (by first | rfl | assumption) rfl (by first | rfl | assumption) ?_
            refine hv_getr dX11_proxy_97 fl_X11_163 (by first | rfl | assumption) rfl (by first | rfl | assumption) ?_
            refine hv_iload_n dX11_proxy_100 rfl ?_
            refine hv_iload_n dX11_proxy_101 rfl ?_
            refine hv_iast dX11_proxy_102 (by first | rfl | assumption) (j := i) hai (by omega) (by first | decide | assumption) ?_
            refine hv_iconst (v := 1) dX11_proxy_103 (by decide) ?_
            refine hv_zret dX11_proxy_104 rfl (by first | exact Or.inl rfl | exact Or.inr rfl | assumption) ?_
            have hno : ¬ (a = b ∨ σ 16 i = b ∨ (¬ b = -1 ∧ (fHasP (σ 16) a h = true ∨ ¬ σ 16 b.toNatClampNeg = -1))) := by
              rintro (q1 | q1 | ⟨q1, q2⟩)
              · exact c_33 q1
              · exact c_46 q1
              · first
                  | exact q1 hb1
                  | (rw [hcl, bI_0 c_64] at q2; exact q2.elim (fun q3 => absurd q3 (by decide)) (fun q3 => q3 c_77))
            refine ⟨rfl, rfl, Or.inr ⟨i, hi, hai, hgd, Or.inr ⟨hno, rfl, ?_, ?_, ?_⟩⟩⟩
            · exact off_up (fun k hk2 => hq1 k (fun qq => hk2 (by simp at qq ⊢; omega))) (by decide)
            · rw [hup_eq, hq1 16 (by decide)]
            · exact pKp_of hq2 (hva_ne (by decide)) (hva_ne (by decide))
          · obtain ⟨j, hj, hbj⟩ := isH_ix k2 (hgd.resolve_left c_53)
            have hcl : b.toNatClampNeg = j := by rw [hbj]; exact nI_clamp (by omega)
            refine hv_aload_n dX11_proxy_56 rfl ?_
            refine hv_getr dX11_proxy_57 fl_X11_44 (by first | rfl | assumption) rfl (by first | rfl | assumption) ?_
            refine hv_iload_n dX11_proxy_60 rfl ?_
            refine hv_cv1 (c_hasProxy hs5 k2) dX11_proxy_61 ml_X11_214 mk_X6_hasProxy (by first | rfl | assumption) rfl rfl rfl rfl rfl ?_
            rintro _ _ _ _ ⟨rfl, rfl, rfl, rfl⟩
            refine hv_if_ne (tgt := 80) dX11_proxy_64 (by decide) (fun c_64 => ?_) (fun c_64 => ?_)
            · refine hv_iconst (v := 0) dX11_proxy_80 (by decide) ?_
              refine hv_zret dX11_proxy_81 rfl (by first | exact Or.inl rfl | exact Or.inr rfl | assumption) ?_
              first
                | exact ⟨rfl, rfl, Or.inr ⟨i, hi, hai, hgd, Or.inl ⟨Or.inr (Or.inr ⟨c_53, Or.inr (by rw [hcl]; exact c_77)⟩), rfl, rfl⟩⟩⟩
                | exact ⟨rfl, rfl, Or.inr ⟨i, hi, hai, hgd, Or.inl ⟨Or.inr (Or.inr ⟨c_53, Or.inl (bI_1 c_64)⟩), rfl, rfl⟩⟩⟩
            · refine hv_aload_n dX11_proxy_67 rfl ?_
              refine hv_getr dX11_proxy_68 fl_X11_44 (by first | rfl | assumption) rfl (by first | rfl | assumption) ?_
              refine hv_getr dX11_proxy_71 fl_X11_163 (by first | rfl | assumption) rfl (by first | rfl | assumption) ?_
              refine hv_iload_n dX11_proxy_74 rfl ?_
              refine hv_iald dX11_proxy_75 (by first | rfl | assumption) (j := j) hbj (by omega) (by first | decide | assumption) ?_
              refine hv_iconst (v := -1) dX11_proxy_76 (by decide) ?_
              refine hv_icmp_eq (tgt := 82) dX11_proxy_77 (by decide) (fun c_77 => ?_) (fun c_77 => ?_)
              · refine hv_aload_n dX11_proxy_82 rfl ?_
                refine hv_getr dX11_proxy_83 fl_X11_51 (by first | rfl | assumption) rfl (by first | rfl | assumption) ?_
                refine hv_aload_n dX11_proxy_86 rfl ?_
                refine hv_getr dX11_proxy_87 fl_X11_44 (by first | rfl | assumption) rfl (by first | rfl | assumption) ?_
                refine hv_cv1 (c_kp hk) dX11_proxy_90 ml_X11_196 mk_X5_keep (by first | rfl | assumption) rfl rfl rfl rfl rfl ?_
                rintro _ _ σ1 _ ⟨rfl, rfl, rfl, hq1, hq2⟩
                refine hv_aload_n dX11_proxy_93 rfl ?_
                refine hv_getr dX11_proxy_94 fl_X11_44 (by first | rfl | assumption) rfl (by first | rfl | assumption) ?_
                refine hv_getr dX11_proxy_97 fl_X11_163 (by first | rfl | assumption) rfl (by first | rfl | assumption) ?_
                refine hv_iload_n dX11_proxy_100 rfl ?_
                refine hv_iload_n dX11_proxy_101 rfl ?_
                refine hv_iast dX11_proxy_102 (by first | rfl | assumption) (j := i) hai (by omega) (by first | decide | assumption) ?_
                refine hv_iconst (v := 1) dX11_proxy_103 (by decide) ?_
                refine hv_zret dX11_proxy_104 rfl (by first | exact Or.inl rfl | exact Or.inr rfl | assumption) ?_
                have hno : ¬ (a = b ∨ σ 16 i = b ∨ (¬ b = -1 ∧ (fHasP (σ 16) a h = true ∨ ¬ σ 16 b.toNatClampNeg = -1))) := by
                  rintro (q1 | q1 | ⟨q1, q2⟩)
                  · exact c_33 q1
                  · exact c_46 q1
                  · first
                      | exact q1 hb1
                      | (rw [hcl, bI_0 c_64] at q2; exact q2.elim (fun q3 => absurd q3 (by decide)) (fun q3 => q3 c_77))
                refine ⟨rfl, rfl, Or.inr ⟨i, hi, hai, hgd, Or.inr ⟨hno, rfl, ?_, ?_, ?_⟩⟩⟩
                · exact off_up (fun k hk2 => hq1 k (fun qq => hk2 (by simp at qq ⊢; omega))) (by decide)
                · rw [hup_eq, hq1 16 (by decide)]
                · exact pKp_of hq2 (hva_ne (by decide)) (hva_ne (by decide))
              · refine hv_iconst (v := 0) dX11_proxy_80 (by decide) ?_
                refine hv_zret dX11_proxy_81 rfl (by first | exact Or.inl rfl | exact Or.inr rfl | assumption) ?_
                first
                  | exact ⟨rfl, rfl, Or.inr ⟨i, hi, hai, hgd, Or.inl ⟨Or.inr (Or.inr ⟨c_53, Or.inr (by rw [hcl]; exact c_77)⟩), rfl, rfl⟩⟩⟩
                  | exact ⟨rfl, rfl, Or.inr ⟨i, hi, hai, hgd, Or.inl ⟨Or.inr (Or.inr ⟨c_53, Or.inl (bI_1 c_64)⟩), rfl, rfl⟩⟩⟩
        · refine hv_iconst (v := 0) dX11_proxy_49 (by decide) ?_
          refine hv_zret dX11_proxy_50 rfl (by first | exact Or.inl rfl | exact Or.inr rfl | assumption) ?_
          first
            | exact ⟨rfl, rfl, Or.inl ⟨hbad, rfl, rfl⟩⟩
            | exact ⟨rfl, rfl, Or.inr ⟨i, hi, hai, hgd, Or.inl ⟨Or.inr (Or.inl c_46), rfl, rfl⟩⟩⟩
            | exact ⟨rfl, rfl, Or.inr ⟨i, hi, hai, hgd, Or.inl ⟨Or.inl c_33, rfl, rfl⟩⟩⟩
            | exact absurd c_28 (by decide)
  · refine hv_iload_n dX11_proxy_8 rfl ?_
    refine hv_iconst (v := -1) dX11_proxy_9 (by decide) ?_
    refine hv_icmp_eq (tgt := 21) dX11_proxy_10 (by decide) (fun c_10 => ?_) (fun c_10 => ?_)
    · refine hv_iconst (v := 1) dX11_proxy_21 (by decide) ?_
      refine hv_goto (tgt := 26) dX11_proxy_22 (by decide) ?_
      refine hv_istore_n dX11_proxy_26 rfl rfl ?_
      refine hv_iload_n dX11_proxy_27 rfl ?_
      refine hv_if_eq (tgt := 49) dX11_proxy_28 (by decide) (fun c_28 => ?_) (fun c_28 => ?_)
      · refine hv_iconst (v := 0) dX11_proxy_49 (by decide) ?_
        refine hv_zret dX11_proxy_50 rfl (by first | exact Or.inl rfl | exact Or.inr rfl | assumption) ?_
        first
          | exact ⟨rfl, rfl, Or.inl ⟨hbad, rfl, rfl⟩⟩
          | exact ⟨rfl, rfl, Or.inr ⟨i, hi, hai, hgd, Or.inl ⟨Or.inr (Or.inl c_46), rfl, rfl⟩⟩⟩
          | exact ⟨rfl, rfl, Or.inr ⟨i, hi, hai, hgd, Or.inl ⟨Or.inl c_33, rfl, rfl⟩⟩⟩
          | exact absurd c_28 (by decide)
      · obtain ⟨i, hi, hai⟩ := isH_ix k2 (bI_1 (by first | exact c_5 | exact absurd rfl c_28))
        have hgd : b = -1 ∨ isH h b = true := by first | exact Or.inl c_10 | exact Or.inr (bI_1 c_18) | exact absurd rfl c_28
        refine hv_iload_n dX11_proxy_31 rfl ?_
        refine hv_iload_n dX11_proxy_32 rfl ?_
        refine hv_icmp_eq (tgt := 49) dX11_proxy_33 (by decide) (fun c_33 => ?_) (fun c_33 => ?_)
        · refine hv_iconst (v := 0) dX11_proxy_49 (by decide) ?_
          refine hv_zret dX11_proxy_50 rfl (by first | exact Or.inl rfl | exact Or.inr rfl | assumption) ?_
          first
            | exact ⟨rfl, rfl, Or.inl ⟨hbad, rfl, rfl⟩⟩
            | exact ⟨rfl, rfl, Or.inr ⟨i, hi, hai, hgd, Or.inl ⟨Or.inr (Or.inl c_46), rfl, rfl⟩⟩⟩
            | exact ⟨rfl, rfl, Or.inr ⟨i, hi, hai, hgd, Or.inl ⟨Or.inl c_33, rfl, rfl⟩⟩⟩
            | exact absurd c_28 (by decide)
        · refine hv_aload_n dX11_proxy_36 rfl ?_
          refine hv_getr dX11_proxy_37 fl_X11_44 (by first | rfl | assumption) rfl (by first | rfl | assumption) ?_
          refine hv_getr dX11_proxy_40 fl_X11_163 (by first | rfl | assumption) rfl (by first | rfl | assumption) ?_
          refine hv_iload_n dX11_proxy_43 rfl ?_
          refine hv_iald dX11_proxy_44 (by first | rfl | assumption) (j := i) hai (by omega) (by first | decide | assumption) ?_
          refine hv_iload_n dX11_proxy_45 rfl ?_
          refine hv_icmp_ne (tgt := 51) dX11_proxy_46 (by decide) (fun c_46 => ?_) (fun c_46 => ?_)
          · refine hv_iload_n dX11_proxy_51 rfl ?_
            refine hv_iconst (v := -1) dX11_proxy_52 (by decide) ?_
            refine hv_icmp_eq (tgt := 82) dX11_proxy_53 (by decide) (fun c_53 => ?_) (fun c_53 => ?_)
            · have hb1 : b = -1 := c_53
              refine hv_aload_n dX11_proxy_82 rfl ?_
              refine hv_getr dX11_proxy_83 fl_X11_51 (by first | rfl | assumption) rfl (by first | rfl | assumption) ?_
              refine hv_aload_n dX11_proxy_86 rfl ?_
              refine hv_getr dX11_proxy_87 fl_X11_44 (by first | rfl | assumption) rfl (by first | rfl | assumption) ?_
              refine hv_cv1 (c_kp hk) dX11_proxy_90 ml_X11_196 mk_X5_keep (by first | rfl | assumption) rfl rfl rfl rfl rfl ?_
              rintro _ _ σ1 _ ⟨rfl, rfl, rfl, hq1, hq2⟩
              refine hv_aload_n dX11_proxy_93 rfl ?_
              refine hv_getr dX11_proxy_94 fl_X11_44 (by first | rfl | assumption) rfl (by first | rfl | assumption) ?_
              refine hv_getr dX11_proxy_97 fl_X11_163 (by first | rfl | assumption) rfl (by first | rfl | assumption) ?_
              refine hv_iload_n dX11_proxy_100 rfl ?_
              refine hv_iload_n dX11_proxy_101 rfl ?_
              refine hv_iast dX11_proxy_102 (by first | rfl | assumption) (j := i) hai (by omega) (by first | decide | assumption) ?_
              refine hv_iconst (v := 1) dX11_proxy_103 (by decide) ?_
              refine hv_zret dX11_proxy_104 rfl (by first | exact Or.inl rfl | exact Or.inr rfl | assumption) ?_
              have hno : ¬ (a = b ∨ σ 16 i = b ∨ (¬ b = -1 ∧ (fHasP (σ 16) a h = true ∨ ¬ σ 16 b.toNatClampNeg = -1))) := by
                rintro (q1 | q1 | ⟨q1, q2⟩)
                · exact c_33 q1
                · exact c_46 q1
                · first
                    | exact q1 hb1
                    | (rw [hcl, bI_0 c_64] at q2; exact q2.elim (fun q3 => absurd q3 (by decide)) (fun q3 => q3 c_77))
              refine ⟨rfl, rfl, Or.inr ⟨i, hi, hai, hgd, Or.inr ⟨hno, rfl, ?_, ?_, ?_⟩⟩⟩
              · exact off_up (fun k hk2 => hq1 k (fun qq => hk2 (by simp at qq ⊢; omega))) (by decide)
              · rw [hup_eq, hq1 16 (by decide)]
              · exact pKp_of hq2 (hva_ne (by decide)) (hva_ne (by decide))
            · obtain ⟨j, hj, hbj⟩ := isH_ix k2 (hgd.resolve_left c_53)
              have hcl : b.toNatClampNeg = j := by rw [hbj]; exact nI_clamp (by omega)
              refine hv_aload_n dX11_proxy_56 rfl ?_
              refine hv_getr dX11_proxy_57 fl_X11_44 (by first | rfl | assumption) rfl (by first | rfl | assumption) ?_
              refine hv_iload_n dX11_proxy_60 rfl ?_
              refine hv_cv1 (c_hasProxy hs5 k2) dX11_proxy_61 ml_X11_214 mk_X6_hasProxy (by first | rfl | assumption) rfl rfl rfl rfl rfl ?_
              rintro _ _ _ _ ⟨rfl, rfl, rfl, rfl⟩
              refine hv_if_ne (tgt := 80) dX11_proxy_64 (by decide) (fun c_64 => ?_) (fun c_64 => ?_)
              · refine hv_iconst (v := 0) dX11_proxy_80 (by decide) ?_
                refine hv_zret dX11_proxy_81 rfl (by first | exact Or.inl rfl | exact Or.inr rfl | assumption) ?_
                first
                  | exact ⟨rfl, rfl, Or.inr ⟨i, hi, hai, hgd, Or.inl ⟨Or.inr (Or.inr ⟨c_53, Or.inr (by rw [hcl]; exact c_77)⟩), rfl, rfl⟩⟩⟩
                  | exact ⟨rfl, rfl, Or.inr ⟨i, hi, hai, hgd, Or.inl ⟨Or.inr (Or.inr ⟨c_53, Or.inl (bI_1 c_64)⟩), rfl, rfl⟩⟩⟩
              · refine hv_aload_n dX11_proxy_67 rfl ?_
                refine hv_getr dX11_proxy_68 fl_X11_44 (by first | rfl | assumption) rfl (by first | rfl | assumption) ?_
                refine hv_getr dX11_proxy_71 fl_X11_163 (by first | rfl | assumption) rfl (by first | rfl | assumption) ?_
                refine hv_iload_n dX11_proxy_74 rfl ?_
                refine hv_iald dX11_proxy_75 (by first | rfl | assumption) (j := j) hbj (by omega) (by first | decide | assumption) ?_
                refine hv_iconst (v := -1) dX11_proxy_76 (by decide) ?_
                refine hv_icmp_eq (tgt := 82) dX11_proxy_77 (by decide) (fun c_77 => ?_) (fun c_77 => ?_)
                · refine hv_aload_n dX11_proxy_82 rfl ?_
                  refine hv_getr dX11_proxy_83 fl_X11_51 (by first | rfl | assumption) rfl (by first | rfl | assumption) ?_
                  refine hv_aload_n dX11_proxy_86 rfl ?_
                  refine hv_getr dX11_proxy_87 fl_X11_44 (by first | rfl | assumption) rfl (by first | rfl | assumption) ?_
                  refine hv_cv1 (c_kp hk) dX11_proxy_90 ml_X11_196 mk_X5_keep (by first | rfl | assumption) rfl rfl rfl rfl rfl ?_
                  rintro _ _ σ1 _ ⟨rfl, rfl, rfl, hq1, hq2⟩
                  refine hv_aload_n dX11_proxy_93 rfl ?_
                  refine hv_getr dX11_proxy_94 fl_X11_44 (by first | rfl | assumption) rfl (by first | rfl | assumption) ?_
                  refine hv_getr dX11_proxy_97 fl_X11_163 (by first | rfl | assumption) rfl (by first | rfl | assumption) ?_
                  refine hv_iload_n dX11_proxy_100 rfl ?_
                  refine hv_iload_n dX11_proxy_101 rfl ?_
                  refine hv_iast dX11_proxy_102 (by first | rfl | assumption) (j := i) hai (by omega) (by first | decide | assumption) ?_
                  refine hv_iconst (v := 1) dX11_proxy_103 (by decide) ?_
                  refine hv_zret dX11_proxy_104 rfl (by first | exact Or.inl rfl | exact Or.inr rfl | assumption) ?_
                  have hno : ¬ (a = b ∨ σ 16 i = b ∨ (¬ b = -1 ∧ (fHasP (σ 16) a h = true ∨ ¬ σ 16 b.toNatClampNeg = -1))) := by
                    rintro (q1 | q1 | ⟨q1, q2⟩)
                    · exact c_33 q1
                    · exact c_46 q1
                    · first
                        | exact q1 hb1
                        | (rw [hcl, bI_0 c_64] at q2; exact q2.elim (fun q3 => absurd q3 (by decide)) (fun q3 => q3 c_77))
                  refine ⟨rfl, rfl, Or.inr ⟨i, hi, hai, hgd, Or.inr ⟨hno, rfl, ?_, ?_, ?_⟩⟩⟩
                  · exact off_up (fun k hk2 => hq1 k (fun qq => hk2 (by simp at qq ⊢; omega))) (by decide)
                  · rw [hup_eq, hq1 16 (by decide)]
                  · exact pKp_of hq2 (hva_ne (by decide)) (hva_ne (by decide))
                · refine hv_iconst (v := 0) dX11_proxy_80 (by decide) ?_
                  refine hv_zret dX11_proxy_81 rfl (by first | exact Or.inl rfl | exact Or.inr rfl | assumption) ?_
                  first
                    | exact ⟨rfl, rfl, Or.inr ⟨i, hi, hai, hgd, Or.inl ⟨Or.inr (Or.inr ⟨c_53, Or.inr (by rw [hcl]; exact c_77)⟩), rfl, rfl⟩⟩⟩
                    | exact ⟨rfl, rfl, Or.inr ⟨i, hi, hai, hgd, Or.inl ⟨Or.inr (Or.inr ⟨c_53, Or.inl (bI_1 c_64)⟩), rfl, rfl⟩⟩⟩
          · refine hv_iconst (v := 0) dX11_proxy_49 (by decide) ?_
            refine hv_zret dX11_proxy_50 rfl (by first | exact Or.inl rfl | exact Or.inr rfl | assumption) ?_
            first
              | exact ⟨rfl, rfl, Or.inl ⟨hbad, rfl, rfl⟩⟩
              | exact ⟨rfl, rfl, Or.inr ⟨i, hi, hai, hgd, Or.inl ⟨Or.inr (Or.inl c_46), rfl, rfl⟩⟩⟩
              | exact ⟨rfl, rfl, Or.inr ⟨i, hi, hai, hgd, Or.inl ⟨Or.inl c_33, rfl, rfl⟩⟩⟩
              | exact absurd c_28 (by decide)
    · refine hv_aload_n dX11_proxy_13 rfl ?_
      refine hv_iload_n dX11_proxy_14 rfl ?_
      refine hv_cv1 (c_isHouse h38) dX11_proxy_15 ml_X11_141 mk_X11_isHouse (by first | rfl | assumption) rfl rfl rfl rfl rfl ?_
      rintro _ _ _ _ ⟨rfl, rfl, rfl, rfl⟩
      refine hv_if_eq (tgt := 25) dX11_proxy_18 (by decide) (fun c_18 => ?_) (fun c_18 => ?_)
      · have hbad : ¬ (isH h a = true ∧ (b = -1 ∨ isH h b = true)) := fun qq => qq.2.elim c_10 (fun q2 => by rw [bI_0 c_18] at q2; exact absurd q2 (by decide))
        refine hv_iconst (v := 0) dX11_proxy_25 (by decide) ?_
        refine hv_istore_n dX11_proxy_26 rfl rfl ?_
        refine hv_iload_n dX11_proxy_27 rfl ?_
        refine hv_if_eq (tgt := 49) dX11_proxy_28 (by decide) (fun c_28 => ?_) (fun c_28 => ?_)
        · refine hv_iconst (v := 0) dX11_proxy_49 (by decide) ?_
          refine hv_zret dX11_proxy_50 rfl (by first | exact Or.inl rfl | exact Or.inr rfl | assumption) ?_
          first
            | exact ⟨rfl, rfl, Or.inl ⟨hbad, rfl, rfl⟩⟩
            | exact ⟨rfl, rfl, Or.inr ⟨i, hi, hai, hgd, Or.inl ⟨Or.inr (Or.inl c_46), rfl, rfl⟩⟩⟩
            | exact ⟨rfl, rfl, Or.inr ⟨i, hi, hai, hgd, Or.inl ⟨Or.inl c_33, rfl, rfl⟩⟩⟩
            | exact absurd c_28 (by decide)
        · obtain ⟨i, hi, hai⟩ := isH_ix k2 (bI_1 (by first | exact c_5 | exact absurd rfl c_28))
          have hgd : b = -1 ∨ isH h b = true := by first | exact Or.inl c_10 | exact Or.inr (bI_1 c_18) | exact absurd rfl c_28
          refine hv_iload_n dX11_proxy_31 rfl ?_
          refine hv_iload_n dX11_proxy_32 rfl ?_
          refine hv_icmp_eq (tgt := 49) dX11_proxy_33 (by decide) (fun c_33 => ?_) (fun c_33 => ?_)
          · refine hv_iconst (v := 0) dX11_proxy_49 (by decide) ?_
            refine hv_zret dX11_proxy_50 rfl (by first | exact Or.inl rfl | exact Or.inr rfl | assumption) ?_
            first
              | exact ⟨rfl, rfl, Or.inl ⟨hbad, rfl, rfl⟩⟩
              | exact ⟨rfl, rfl, Or.inr ⟨i, hi, hai, hgd, Or.inl ⟨Or.inr (Or.inl c_46), rfl, rfl⟩⟩⟩
              | exact ⟨rfl, rfl, Or.inr ⟨i, hi, hai, hgd, Or.inl ⟨Or.inl c_33, rfl, rfl⟩⟩⟩
              | exact absurd c_28 (by decide)
          · refine hv_aload_n dX11_proxy_36 rfl ?_
            refine hv_getr dX11_proxy_37 fl_X11_44 (by first | rfl | assumption) rfl (by first | rfl | assumption) ?_
            refine hv_getr dX11_proxy_40 fl_X11_163 (by first | rfl | assumption) rfl (by first | rfl | assumption) ?_
            refine hv_iload_n dX11_proxy_43 rfl ?_
            refine hv_iald dX11_proxy_44 (by first | rfl | assumption) (j := i) hai (by omega) (by first | decide | assumption) ?_
            refine hv_iload_n dX11_proxy_45 rfl ?_
            refine hv_icmp_ne (tgt := 51) dX11_proxy_46 (by decide) (fun c_46 => ?_) (fun c_46 => ?_)
            · refine hv_iload_n dX11_proxy_51 rfl ?_
              refine hv_iconst (v := -1) dX11_proxy_52 (by decide) ?_
              refine hv_icmp_eq (tgt := 82) dX11_proxy_53 (by decide) (fun c_53 => ?_) (fun c_53 => ?_)
              · have hb1 : b = -1 := c_53
                refine hv_aload_n dX11_proxy_82 rfl ?_
                refine hv_getr dX11_proxy_83 fl_X11_51 (by first | rfl | assumption) rfl (by first | rfl | assumption) ?_
                refine hv_aload_n dX11_proxy_86 rfl ?_
                refine hv_getr dX11_proxy_87 fl_X11_44 (by first | rfl | assumption) rfl (by first | rfl | assumption) ?_
                refine hv_cv1 (c_kp hk) dX11_proxy_90 ml_X11_196 mk_X5_keep (by first | rfl | assumption) rfl rfl rfl rfl rfl ?_
                rintro _ _ σ1 _ ⟨rfl, rfl, rfl, hq1, hq2⟩
                refine hv_aload_n dX11_proxy_93 rfl ?_
                refine hv_getr dX11_proxy_94 fl_X11_44 (by first | rfl | assumption) rfl (by first | rfl | assumption) ?_
                refine hv_getr dX11_proxy_97 fl_X11_163 (by first | rfl | assumption) rfl (by first | rfl | assumption) ?_
                refine hv_iload_n dX11_proxy_100 rfl ?_
                refine hv_iload_n dX11_proxy_101 rfl ?_
                refine hv_iast dX11_proxy_102 (by first | rfl | assumption) (j := i) hai (by omega) (by first | decide | assumption) ?_
                refine hv_iconst (v := 1) dX11_proxy_103 (by decide) ?_
                refine hv_zret dX11_proxy_104 rfl (by first | exact Or.inl rfl | exact Or.inr rfl | assumption) ?_
                have hno : ¬ (a = b ∨ σ 16 i = b ∨ (¬ b = -1 ∧ (fHasP (σ 16) a h = true ∨ ¬ σ 16 b.toNatClampNeg = -1))) := by
                  rintro (q1 | q1 | ⟨q1, q2⟩)
                  · exact c_33 q1
                  · exact c_46 q1
                  · first
                      | exact q1 hb1
                      | (rw [hcl, bI_0 c_64] at q2; exact q2.elim (fun q3 => absurd q3 (by decide)) (fun q3 => q3 c_77))
                refine ⟨rfl, rfl, Or.inr ⟨i, hi, hai, hgd, Or.inr ⟨hno, rfl, ?_, ?_, ?_⟩⟩⟩
                · exact off_up (fun k hk2 => hq1 k (fun qq => hk2 (by simp at qq ⊢; omega))) (by decide)
                · rw [hup_eq, hq1 16 (by decide)]
                · exact pKp_of hq2 (hva_ne (by decide)) (hva_ne (by decide))
              · obtain ⟨j, hj, hbj⟩ := isH_ix k2 (hgd.resolve_left c_53)
                have hcl : b.toNatClampNeg = j := by rw [hbj]; exact nI_clamp (by omega)
                refine hv_aload_n dX11_proxy_56 rfl ?_
                refine hv_getr dX11_proxy_57 fl_X11_44 (by first | rfl | assumption) rfl (by first | rfl | assumption) ?_
                refine hv_iload_n dX11_proxy_60 rfl ?_
                refine hv_cv1 (c_hasProxy hs5 k2) dX11_proxy_61 ml_X11_214 mk_X6_hasProxy (by first | rfl | assumption) rfl rfl rfl rfl rfl ?_
                rintro _ _ _ _ ⟨rfl, rfl, rfl, rfl⟩
                refine hv_if_ne (tgt := 80) dX11_proxy_64 (by decide) (fun c_64 => ?_) (fun c_64 => ?_)
                · refine hv_iconst (v := 0) dX11_proxy_80 (by decide) ?_
                  refine hv_zret dX11_proxy_81 rfl (by first | exact Or.inl rfl | exact Or.inr rfl | assumption) ?_
                  first
                    | exact ⟨rfl, rfl, Or.inr ⟨i, hi, hai, hgd, Or.inl ⟨Or.inr (Or.inr ⟨c_53, Or.inr (by rw [hcl]; exact c_77)⟩), rfl, rfl⟩⟩⟩
                    | exact ⟨rfl, rfl, Or.inr ⟨i, hi, hai, hgd, Or.inl ⟨Or.inr (Or.inr ⟨c_53, Or.inl (bI_1 c_64)⟩), rfl, rfl⟩⟩⟩
                · refine hv_aload_n dX11_proxy_67 rfl ?_
                  refine hv_getr dX11_proxy_68 fl_X11_44 (by first | rfl | assumption) rfl (by first | rfl | assumption) ?_
                  refine hv_getr dX11_proxy_71 fl_X11_163 (by first | rfl | assumption) rfl (by first | rfl | assumption) ?_
                  refine hv_iload_n dX11_proxy_74 rfl ?_
                  refine hv_iald dX11_proxy_75 (by first | rfl | assumption) (j := j) hbj (by omega) (by first | decide | assumption) ?_
                  refine hv_iconst (v := -1) dX11_proxy_76 (by decide) ?_
                  refine hv_icmp_eq (tgt := 82) dX11_proxy_77 (by decide) (fun c_77 => ?_) (fun c_77 => ?_)
                  · refine hv_aload_n dX11_proxy_82 rfl ?_
                    refine hv_getr dX11_proxy_83 fl_X11_51 (by first | rfl | assumption) rfl (by first | rfl | assumption) ?_
                    refine hv_aload_n dX11_proxy_86 rfl ?_
                    refine hv_getr dX11_proxy_87 fl_X11_44 (by first | rfl | assumption) rfl (by first | rfl | assumption) ?_
                    refine hv_cv1 (c_kp hk) dX11_proxy_90 ml_X11_196 mk_X5_keep (by first | rfl | assumption) rfl rfl rfl rfl rfl ?_
                    rintro _ _ σ1 _ ⟨rfl, rfl, rfl, hq1, hq2⟩
                    refine hv_aload_n dX11_proxy_93 rfl ?_
                    refine hv_getr dX11_proxy_94 fl_X11_44 (by first | rfl | assumption) rfl (by first | rfl | assumption) ?_
                    refine hv_getr dX11_proxy_97 fl_X11_163 (by first | rfl | assumption) rfl (by first | rfl | assumption) ?_
                    refine hv_iload_n dX11_proxy_100 rfl ?_
                    refine hv_iload_n dX11_proxy_101 rfl ?_
                    refine hv_iast dX11_proxy_102 (by first | rfl | assumption) (j := i) hai (by omega) (by first | decide | assumption) ?_
                    refine hv_iconst (v := 1) dX11_proxy_103 (by decide) ?_
                    refine hv_zret dX11_proxy_104 rfl (by first | exact Or.inl rfl | exact Or.inr rfl | assumption) ?_
                    have hno : ¬ (a = b ∨ σ 16 i = b ∨ (¬ b = -1 ∧ (fHasP (σ 16) a h = true ∨ ¬ σ 16 b.toNatClampNeg = -1))) := by
                      rintro (q1 | q1 | ⟨q1, q2⟩)
                      · exact c_33 q1
                      · exact c_46 q1
                      · first
                          | exact q1 hb1
                          | (rw [hcl, bI_0 c_64] at q2; exact q2.elim (fun q3 => absurd q3 (by decide)) (fun q3 => q3 c_77))
                    refine ⟨rfl, rfl, Or.inr ⟨i, hi, hai, hgd, Or.inr ⟨hno, rfl, ?_, ?_, ?_⟩⟩⟩
                    · exact off_up (fun k hk2 => hq1 k (fun qq => hk2 (by simp at qq ⊢; omega))) (by decide)
                    · rw [hup_eq, hq1 16 (by decide)]
                    · exact pKp_of hq2 (hva_ne (by decide)) (hva_ne (by decide))
                  · refine hv_iconst (v := 0) dX11_proxy_80 (by decide) ?_
                    refine hv_zret dX11_proxy_81 rfl (by first | exact Or.inl rfl | exact Or.inr rfl | assumption) ?_
                    first
                      | exact ⟨rfl, rfl, Or.inr ⟨i, hi, hai, hgd, Or.inl ⟨Or.inr (Or.inr ⟨c_53, Or.inr (by rw [hcl]; exact c_77)⟩), rfl, rfl⟩⟩⟩
                      | exact ⟨rfl, rfl, Or.inr ⟨i, hi, hai, hgd, Or.inl ⟨Or.inr (Or.inr ⟨c_53, Or.inl (bI_1 c_64)⟩), rfl, rfl⟩⟩⟩
            · refine hv_iconst (v := 0) dX11_proxy_49 (by decide) ?_
              refine hv_zret dX11_proxy_50 rfl (by first | exact Or.inl rfl | exact Or.inr rfl | assumption) ?_
              first
                | exact ⟨rfl, rfl, Or.inl ⟨hbad, rfl, rfl⟩⟩
                | exact ⟨rfl, rfl, Or.inr ⟨i, hi, hai, hgd, Or.inl ⟨Or.inr (Or.inl c_46), rfl, rfl⟩⟩⟩
                | exact ⟨rfl, rfl, Or.inr ⟨i, hi, hai, hgd, Or.inl ⟨Or.inl c_33, rfl, rfl⟩⟩⟩
                | exact absurd c_28 (by decide)
      · refine hv_iconst (v := 1) dX11_proxy_21 (by decide) ?_
        refine hv_goto (tgt := 26) dX11_proxy_22 (by decide) ?_
        refine hv_istore_n dX11_proxy_26 rfl rfl ?_
        refine hv_iload_n dX11_proxy_27 rfl ?_
        refine hv_if_eq (tgt := 49) dX11_proxy_28 (by decide) (fun c_28 => ?_) (fun c_28 => ?_)
        · refine hv_iconst (v := 0) dX11_proxy_49 (by decide) ?_
          refine hv_zret dX11_proxy_50 rfl (by first | exact Or.inl rfl | exact Or.inr rfl | assumption) ?_
          first
            | exact ⟨rfl, rfl, Or.inl ⟨hbad, rfl, rfl⟩⟩
            | exact ⟨rfl, rfl, Or.inr ⟨i, hi, hai, hgd, Or.inl ⟨Or.inr (Or.inl c_46), rfl, rfl⟩⟩⟩
            | exact ⟨rfl, rfl, Or.inr ⟨i, hi, hai, hgd, Or.inl ⟨Or.inl c_33, rfl, rfl⟩⟩⟩
            | exact absurd c_28 (by decide)
        · obtain ⟨i, hi, hai⟩ := isH_ix k2 (bI_1 (by first | exact c_5 | exact absurd rfl c_28))
          have hgd : b = -1 ∨ isH h b = true := by first | exact Or.inl c_10 | exact Or.inr (bI_1 c_18) | exact absurd rfl c_28
          refine hv_iload_n dX11_proxy_31 rfl ?_
          refine hv_iload_n dX11_proxy_32 rfl ?_
          refine hv_icmp_eq (tgt := 49) dX11_proxy_33 (by decide) (fun c_33 => ?_) (fun c_33 => ?_)
          · refine hv_iconst (v := 0) dX11_proxy_49 (by decide) ?_
            refine hv_zret dX11_proxy_50 rfl (by first | exact Or.inl rfl | exact Or.inr rfl | assumption) ?_
            first
              | exact ⟨rfl, rfl, Or.inl ⟨hbad, rfl, rfl⟩⟩
              | exact ⟨rfl, rfl, Or.inr ⟨i, hi, hai, hgd, Or.inl ⟨Or.inr (Or.inl c_46), rfl, rfl⟩⟩⟩
              | exact ⟨rfl, rfl, Or.inr ⟨i, hi, hai, hgd, Or.inl ⟨Or.inl c_33, rfl, rfl⟩⟩⟩
              | exact absurd c_28 (by decide)
          · refine hv_aload_n dX11_proxy_36 rfl ?_
            refine hv_getr dX11_proxy_37 fl_X11_44 (by first | rfl | assumption) rfl (by first | rfl | assumption) ?_
            refine hv_getr dX11_proxy_40 fl_X11_163 (by first | rfl | assumption) rfl (by first | rfl | assumption) ?_
            refine hv_iload_n dX11_proxy_43 rfl ?_
            refine hv_iald dX11_proxy_44 (by first | rfl | assumption) (j := i) hai (by omega) (by first | decide | assumption) ?_
            refine hv_iload_n dX11_proxy_45 rfl ?_
            refine hv_icmp_ne (tgt := 51) dX11_proxy_46 (by decide) (fun c_46 => ?_) (fun c_46 => ?_)
            · refine hv_iload_n dX11_proxy_51 rfl ?_
              refine hv_iconst (v := -1) dX11_proxy_52 (by decide) ?_
              refine hv_icmp_eq (tgt := 82) dX11_proxy_53 (by decide) (fun c_53 => ?_) (fun c_53 => ?_)
              · have hb1 : b = -1 := c_53
                refine hv_aload_n dX11_proxy_82 rfl ?_
                refine hv_getr dX11_proxy_83 fl_X11_51 (by first | rfl | assumption) rfl (by first | rfl | assumption) ?_
                refine hv_aload_n dX11_proxy_86 rfl ?_
                refine hv_getr dX11_proxy_87 fl_X11_44 (by first | rfl | assumption) rfl (by first | rfl | assumption) ?_
                refine hv_cv1 (c_kp hk) dX11_proxy_90 ml_X11_196 mk_X5_keep (by first | rfl | assumption) rfl rfl rfl rfl rfl ?_
                rintro _ _ σ1 _ ⟨rfl, rfl, rfl, hq1, hq2⟩
                refine hv_aload_n dX11_proxy_93 rfl ?_
                refine hv_getr dX11_proxy_94 fl_X11_44 (by first | rfl | assumption) rfl (by first | rfl | assumption) ?_
                refine hv_getr dX11_proxy_97 fl_X11_163 (by first | rfl | assumption) rfl (by first | rfl | assumption) ?_
                refine hv_iload_n dX11_proxy_100 rfl ?_
                refine hv_iload_n dX11_proxy_101 rfl ?_
                refine hv_iast dX11_proxy_102 (by first | rfl | assumption) (j := i) hai (by omega) (by first | decide | assumption) ?_
                refine hv_iconst (v := 1) dX11_proxy_103 (by decide) ?_
                refine hv_zret dX11_proxy_104 rfl (by first | exact Or.inl rfl | exact Or.inr rfl | assumption) ?_
                have hno : ¬ (a = b ∨ σ 16 i = b ∨ (¬ b = -1 ∧ (fHasP (σ 16) a h = true ∨ ¬ σ 16 b.toNatClampNeg = -1))) := by
                  rintro (q1 | q1 | ⟨q1, q2⟩)
                  · exact c_33 q1
                  · exact c_46 q1
                  · first
                      | exact q1 hb1
                      | (rw [hcl, bI_0 c_64] at q2; exact q2.elim (fun q3 => absurd q3 (by decide)) (fun q3 => q3 c_77))
                refine ⟨rfl, rfl, Or.inr ⟨i, hi, hai, hgd, Or.inr ⟨hno, rfl, ?_, ?_, ?_⟩⟩⟩
                · exact off_up (fun k hk2 => hq1 k (fun qq => hk2 (by simp at qq ⊢; omega))) (by decide)
                · rw [hup_eq, hq1 16 (by decide)]
                · exact pKp_of hq2 (hva_ne (by decide)) (hva_ne (by decide))
              · obtain ⟨j, hj, hbj⟩ := isH_ix k2 (hgd.resolve_left c_53)
                have hcl : b.toNatClampNeg = j := by rw [hbj]; exact nI_clamp (by omega)
                refine hv_aload_n dX11_proxy_56 rfl ?_
                refine hv_getr dX11_proxy_57 fl_X11_44 (by first | rfl | assumption) rfl (by first | rfl | assumption) ?_
                refine hv_iload_n dX11_proxy_60 rfl ?_
                refine hv_cv1 (c_hasProxy hs5 k2) dX11_proxy_61 ml_X11_214 mk_X6_hasProxy (by first | rfl | assumption) rfl rfl rfl rfl rfl ?_
                rintro _ _ _ _ ⟨rfl, rfl, rfl, rfl⟩
                refine hv_if_ne (tgt := 80) dX11_proxy_64 (by decide) (fun c_64 => ?_) (fun c_64 => ?_)
                · refine hv_iconst (v := 0) dX11_proxy_80 (by decide) ?_
                  refine hv_zret dX11_proxy_81 rfl (by first | exact Or.inl rfl | exact Or.inr rfl | assumption) ?_
                  first
                    | exact ⟨rfl, rfl, Or.inr ⟨i, hi, hai, hgd, Or.inl ⟨Or.inr (Or.inr ⟨c_53, Or.inr (by rw [hcl]; exact c_77)⟩), rfl, rfl⟩⟩⟩
                    | exact ⟨rfl, rfl, Or.inr ⟨i, hi, hai, hgd, Or.inl ⟨Or.inr (Or.inr ⟨c_53, Or.inl (bI_1 c_64)⟩), rfl, rfl⟩⟩⟩
                · refine hv_aload_n dX11_proxy_67 rfl ?_
                  refine hv_getr dX11_proxy_68 fl_X11_44 (by first | rfl | assumption) rfl (by first | rfl | assumption) ?_
                  refine hv_getr dX11_proxy_71 fl_X11_163 (by first | rfl | assumption) rfl (by first | rfl | assumption) ?_
                  refine hv_iload_n dX11_proxy_74 rfl ?_
                  refine hv_iald dX11_proxy_75 (by first | rfl | assumption) (j := j) hbj (by omega) (by first | decide | assumption) ?_
                  refine hv_iconst (v := -1) dX11_proxy_76 (by decide) ?_
                  refine hv_icmp_eq (tgt := 82) dX11_proxy_77 (by decide) (fun c_77 => ?_) (fun c_77 => ?_)
                  · refine hv_aload_n dX11_proxy_82 rfl ?_
                    refine hv_getr dX11_proxy_83 fl_X11_51 (by first | rfl | assumption) rfl (by first | rfl | assumption) ?_
                    refine hv_aload_n dX11_proxy_86 rfl ?_
                    refine hv_getr dX11_proxy_87 fl_X11_44 (by first | rfl | assumption) rfl (by first | rfl | assumption) ?_
                    refine hv_cv1 (c_kp hk) dX11_proxy_90 ml_X11_196 mk_X5_keep (by first | rfl | assumption) rfl rfl rfl rfl rfl ?_
                    rintro _ _ σ1 _ ⟨rfl, rfl, rfl, hq1, hq2⟩
                    refine hv_aload_n dX11_proxy_93 rfl ?_
                    refine hv_getr dX11_proxy_94 fl_X11_44 (by first | rfl | assumption) rfl (by first | rfl | assumption) ?_
                    refine hv_getr dX11_proxy_97 fl_X11_163 (by first | rfl | assumption) rfl (by first | rfl | assumption) ?_
                    refine hv_iload_n dX11_proxy_100 rfl ?_
                    refine hv_iload_n dX11_proxy_101 rfl ?_
                    refine hv_iast dX11_proxy_102 (by first | rfl | assumption) (j := i) hai (by omega) (by first | decide | assumption) ?_
                    refine hv_iconst (v := 1) dX11_proxy_103 (by decide) ?_
                    refine hv_zret dX11_proxy_104 rfl (by first | exact Or.inl rfl | exact Or.inr rfl | assumption) ?_
                    have hno : ¬ (a = b ∨ σ 16 i = b ∨ (¬ b = -1 ∧ (fHasP (σ 16) a h = true ∨ ¬ σ 16 b.toNatClampNeg = -1))) := by
                      rintro (q1 | q1 | ⟨q1, q2⟩)
                      · exact c_33 q1
                      · exact c_46 q1
                      · first
                          | exact q1 hb1
                          | (rw [hcl, bI_0 c_64] at q2; exact q2.elim (fun q3 => absurd q3 (by decide)) (fun q3 => q3 c_77))
                    refine ⟨rfl, rfl, Or.inr ⟨i, hi, hai, hgd, Or.inr ⟨hno, rfl, ?_, ?_, ?_⟩⟩⟩
                    · exact off_up (fun k hk2 => hq1 k (fun qq => hk2 (by simp at qq ⊢; omega))) (by decide)
                    · rw [hup_eq, hq1 16 (by decide)]
                    · exact pKp_of hq2 (hva_ne (by decide)) (hva_ne (by decide))
                  · refine hv_iconst (v := 0) dX11_proxy_80 (by decide) ?_
                    refine hv_zret dX11_proxy_81 rfl (by first | exact Or.inl rfl | exact Or.inr rfl | assumption) ?_
                    first
                      | exact ⟨rfl, rfl, Or.inr ⟨i, hi, hai, hgd, Or.inl ⟨Or.inr (Or.inr ⟨c_53, Or.inr (by rw [hcl]; exact c_77)⟩), rfl, rfl⟩⟩⟩
                      | exact ⟨rfl, rfl, Or.inr ⟨i, hi, hai, hgd, Or.inl ⟨Or.inr (Or.inr ⟨c_53, Or.inl (bI_1 c_64)⟩), rfl, rfl⟩⟩⟩
            · refine hv_iconst (v := 0) dX11_proxy_49 (by decide) ?_
              refine hv_zret dX11_proxy_50 rfl (by first | exact Or.inl rfl | exact Or.inr rfl | assumption) ?_
              first
                | exact ⟨rfl, rfl, Or.inl ⟨hbad, rfl, rfl⟩⟩
                | exact ⟨rfl, rfl, Or.inr ⟨i, hi, hai, hgd, Or.inl ⟨Or.inr (Or.inl c_46), rfl, rfl⟩⟩⟩
                | exact ⟨rfl, rfl, Or.inr ⟨i, hi, hai, hgd, Or.inl ⟨Or.inl c_33, rfl, rfl⟩⟩⟩
                | exact absurd c_28 (by decide)
theorem c_takeover {h sz : Nat} {a w : Int32} (ok : okC σ h sz) (hs5 : σ 11 5 = nI h) : hCal G (m_X11_takeover (hQx xQ (some (.int (if isH h a = true ∧ (w = 0 ∨ w = 1) then (if hsum (σ 12) h = 0 ∨ σ 13 a.toNatClampNeg < fTake (hsum (σ 12) h) (σ 12 a.toNatClampNeg) (fPrice (twC σ h sz) (dyC σ 11)) then -2 else if w = 0 then fTake (hsum (σ 12) h) (σ 12 a.toNatClampNeg) (fPrice (twC σ h sz) (dyC σ 11)) else fMaj (σ 12) h (fSm (σ 12) (2 ^ h - 1) 7) 8 (2 ^ a.toNatClampNeg) 0) else -1))) (rr 38 51 x y) σ τ)) [.ref (hgA G 0), .int a, .int w] shp (rr 38 51 x y) σ τ := by
  have k2 := ok.2.1
  refine hv_enter pn_X11 rfl ?_
  refine hv_aload_n dX11_takeover_0 rfl ?_
  refine hv_iload_n dX11_takeover_1 rfl ?_
  refine hv_cv1 (c_isHouse ok.1) dX11_takeover_2 ml_X11_141 mk_X11_isHouse (by first | rfl | assumption) rfl rfl rfl rfl rfl ?_
  rintro _ _ _ _ ⟨rfl, rfl, rfl, rfl⟩
  refine hv_if_eq (tgt := 16) dX11_takeover_5 (by decide) (fun c_5 => ?_) (fun c_5 => ?_)
  · rw [if_neg (fun qq => by rw [bI_0 c_5] at qq; exact absurd qq.1 (by decide))]
    refine hv_iconst (v := -1) dX11_takeover_16 (by decide) ?_
    refine hv_iret dX11_takeover_17 rfl ?_
    exact ⟨rfl, rfl, rfl, fun _ _ => rfl⟩
  · refine hv_aload_n dX11_takeover_8 rfl ?_
    refine hv_iload_n dX11_takeover_9 rfl ?_
    refine hv_cv1 (c_isFS) dX11_takeover_10 ml_X11_238 mk_X11_isFirstOrSecond (by first | rfl | assumption) rfl rfl rfl rfl rfl ?_
    rintro _ _ _ _ ⟨rfl, rfl, rfl, rfl⟩
    refine hv_if_ne (tgt := 18) dX11_takeover_13 (by decide) (fun c_13 => ?_) (fun c_13 => ?_)
    · rw [if_pos ⟨bI_1 c_5, of_decide_eq_true (bI_1 c_13)⟩]
      obtain ⟨i, hi, rfl⟩ := isH_ix k2 (bI_1 c_5)
      rw [nI_clamp (by omega)]
      have hp7 := pow_lt7 (i := i) (by omega)
      refine hv_aload_n dX11_takeover_18 rfl ?_
      refine hv_getr dX11_takeover_19 fl_X11_44 (by first | rfl | assumption) rfl (by first | rfl | assumption) ?_
      refine hv_cv0 (c_allFish_11 hs5 k2) dX11_takeover_22 ml_X11_166 mk_X6_allFish (by first | rfl | assumption) rfl rfl rfl rfl rfl ?_
      rintro _ _ _ _ ⟨rfl, rfl, rfl, rfl⟩
      refine hv_istore_n dX11_takeover_25 rfl rfl ?_
      refine hv_iconst (v := 0) dX11_takeover_26 (by decide) ?_
      refine hv_iload_n dX11_takeover_27 rfl ?_
      refine hv_iconst (v := 2) dX11_takeover_28 (by decide) ?_
      refine hv_idiv dX11_takeover_29 (by decide) ?_
      refine hv_iconst (v := 1) dX11_takeover_30 (by decide) ?_
      refine hv_iadd dX11_takeover_31 ?_
      refine hv_aload_n dX11_takeover_32 rfl ?_
      refine hv_getr dX11_takeover_33 fl_X11_44 (by first | rfl | assumption) rfl (by first | rfl | assumption) ?_
      refine hv_getr dX11_takeover_36 fl_X11_144 (by first | rfl | assumption) rfl (by first | rfl | assumption) ?_
      refine hv_iload_n dX11_takeover_39 rfl ?_
      refine hv_iald dX11_takeover_40 (by first | rfl | assumption) rfl (by first | assumption | omega) (by first | decide | assumption) ?_
      refine hv_isub dX11_takeover_41 ?_
      refine hv_max dX11_takeover_42 ml_X11_286 rfl rfl rfl rfl ?_
      refine hv_istore dX11_takeover_45 rfl rfl ?_
      refine hv_iload dX11_takeover_47 rfl ?_
      refine hv_aload_n dX11_takeover_49 rfl ?_
      refine hv_getr dX11_takeover_50 fl_X11_58 (by first | rfl | assumption) rfl (by first | rfl | assumption) ?_
      refine hv_aload_n dX11_takeover_53 rfl ?_
      refine hv_getr dX11_takeover_54 fl_X11_81 (by first | rfl | assumption) rfl (by first | rfl | assumption) ?_
      refine hv_aload_n dX11_takeover_57 rfl ?_
      refine hv_getr dX11_takeover_58 fl_X11_44 (by first | rfl | assumption) rfl (by first | rfl | assumption) ?_
      refine hv_cv2 (c_price_11 ok hs5) dX11_takeover_61 ml_X11_180 mk_X2_price (by first | rfl | assumption) rfl rfl rfl rfl rfl ?_
      rintro _ _ σ1 _ ⟨rfl, rfl, rfl, hq1⟩
      obtain ⟨tk, htk⟩ : ∃ tk, fTake (hsum (σ 12) h) (σ 12 i) (fPrice (twC σ h sz) (dyC σ 11)) = tk := ⟨_, rfl⟩
      rw [htk]
      refine hv_imul dX11_takeover_64 ?_
      refine hv_str (st' := [.int tk]) (congrArg (fun z => [Value.int z]) htk) ?_
      refine hv_istore dX11_takeover_65 rfl rfl ?_
      refine hv_iload_n dX11_takeover_67 rfl ?_
      refine hv_if_eq (tgt := 85) dX11_takeover_68 (by decide) (fun c_68 => ?_) (fun c_68 => ?_)
      · rw [if_pos (Or.inl c_68)]
        refine hv_bipush (v := -2) dX11_takeover_85 (by decide) ?_
        refine hv_iret dX11_takeover_87 rfl ?_
        exact ⟨rfl, rfl, rfl, off_wk hq1 (by decide)⟩
      · refine hv_iload dX11_takeover_71 rfl ?_
        refine hv_aload_n dX11_takeover_73 rfl ?_
        refine hv_getr dX11_takeover_74 fl_X11_44 (by first | rfl | assumption) rfl (by first | rfl | assumption) ?_
        refine hv_getr dX11_takeover_77 fl_X11_148 (by first | rfl | assumption) rfl (by first | rfl | assumption) ?_
        refine hv_iload_n dX11_takeover_80 rfl ?_
        refine hv_iald dX11_takeover_81 (by first | rfl | assumption) rfl (by first | assumption | omega) (by first | decide | assumption) ?_
        rw [hq1 13 (by decide)]
        refine hv_icmp_le (tgt := 88) dX11_takeover_82 (by decide) (fun c_82 => ?_) (fun c_82 => ?_)
        · rw [if_neg (fun qq => qq.elim c_68 (Int32.not_lt.mpr c_82))]
          refine hv_iload_n dX11_takeover_88 rfl ?_
          refine hv_if_ne (tgt := 97) dX11_takeover_89 (by decide) (fun c_89 => ?_) (fun c_89 => ?_)
          · rw [if_neg c_89]
            refine hv_aload_n dX11_takeover_97 rfl ?_
            refine hv_getr dX11_takeover_98 fl_X11_67 (by first | rfl | assumption) rfl (by first | rfl | assumption) ?_
            refine hv_aload_n dX11_takeover_101 rfl ?_
            refine hv_getr dX11_takeover_102 fl_X11_44 (by first | rfl | assumption) rfl (by first | rfl | assumption) ?_
            refine hv_getr dX11_takeover_105 fl_X11_144 (by first | rfl | assumption) rfl (by first | rfl | assumption) ?_
            refine hv_iconst (v := 1) dX11_takeover_108 (by decide) ?_
            refine hv_iload_n dX11_takeover_109 rfl ?_
            refine hv_ishl dX11_takeover_110 ?_
            rw [b_shl (by omega)]
            refine hv_aload_n dX11_takeover_111 rfl ?_
            refine hv_getr dX11_takeover_112 fl_X11_81 (by first | rfl | assumption) rfl (by first | rfl | assumption) ?_
            refine hv_geti dX11_takeover_115 fl_X11_241 (by first | rfl | assumption) rfl ?_
            rw [hq1 38 (by decide), ok.1]
            refine hv_cv3 (c_fewestToMajority rfl (by omega) k2) dX11_takeover_118 ml_X11_282 mk_X0_fewestToMajority (by first | rfl | assumption) rfl rfl rfl rfl rfl ?_
            rintro _ _ _ _ ⟨rfl, rfl, rfl, rfl⟩
            rw [hq1 12 (by decide)]
            refine hv_iret dX11_takeover_121 rfl ?_
            exact ⟨rfl, rfl, rfl, off_wk hq1 (by decide)⟩
          · rw [if_pos c_89]
            refine hv_iload dX11_takeover_92 rfl ?_
            refine hv_goto (tgt := 121) dX11_takeover_94 (by decide) ?_
            refine hv_iret dX11_takeover_121 rfl ?_
            exact ⟨rfl, rfl, rfl, off_wk hq1 (by decide)⟩
        · rw [if_pos (Or.inr (Int32.not_le.mp c_82))]
          refine hv_bipush (v := -2) dX11_takeover_85 (by decide) ?_
          refine hv_iret dX11_takeover_87 rfl ?_
          exact ⟨rfl, rfl, rfl, off_wk hq1 (by decide)⟩
    · rw [if_neg (fun qq => of_decide_eq_false (bI_0 c_13) qq.2)]
      refine hv_iconst (v := -1) dX11_takeover_16 (by decide) ?_
      refine hv_iret dX11_takeover_17 rfl ?_
      exact ⟨rfl, rfl, rfl, fun _ _ => rfl⟩
theorem c_motion {h sz mo : Nat} {pr : Nat → Option Nat} {V : hF} {m w : Int32} {sp : Nat → Nat} {C : Nat → Int32} {R : Nat → Int32} (ok : okC σ h sz) (hs5 : σ 11 5 = nI h) (hpr : okX σ h pr) (hvv : V = fVotes (twC σ h sz) (dyC σ 11) (hsum (σ 12) h)) (hmo : σ 38 9 = nI mo) (hm5 : mo ≤ 5) (hsp : ∀ i, i < mo → σ 44 i = nI (sp i) ∧ sp i < 128) (hC : ∀ f : hF, (∀ i, i < 7 → f i = fHad V pr h i) → ∀ i, i < mo → C i = fSm f (sp i) 7) (hR : ∀ f : hF, (∀ i, i < 7 → f i = fHad V pr h i) → ∀ i, i < mo → R i = fMaj f h (fSm f (2 ^ h - 1) 7) 8 (sp i) 0) : hCal G (m_X11_motion (hQx xQ (some (.int (if isH mo m = true ∧ inI 0 2 w = true then (if w = 0 then (if C m.toNatClampNeg ≤ hsum V h - C m.toNatClampNeg then 0 else 1) else if w = 1 then C m.toNatClampNeg else R m.toNatClampNeg) else -1))) (rr 38 51 x y) σ τ)) [.ref (hgA G 0), .int m, .int w] shp (rr 38 51 x y) σ τ := by
  have k2 := ok.2.1
  refine hv_enter pn_X11 rfl ?_
  refine hv_iload_n dX11_motion_0 rfl ?_
  refine hv_if_lt (tgt := 24) dX11_motion_1 (by decide) (fun c_1 => ?_) (fun c_1 => ?_)
  · rw [if_neg (fun qq => (of_decide_eq_true qq.1).1 c_1)]
    refine hv_iconst (v := -1) dX11_motion_24 (by decide) ?_
    refine hv_iret dX11_motion_25 rfl ?_
    exact ⟨rfl, rfl, rfl, fun _ _ => rfl⟩
  · refine hv_iload_n dX11_motion_4 rfl ?_
    refine hv_aload_n dX11_motion_5 rfl ?_
    refine hv_getr dX11_motion_6 fl_X11_81 (by first | rfl | assumption) rfl (by first | rfl | assumption) ?_
    refine hv_geti dX11_motion_9 fl_X11_291 (by first | rfl | assumption) rfl ?_
    rw [hmo]
    refine hv_icmp_ge (tgt := 24) dX11_motion_12 (by decide) (fun c_12 => ?_) (fun c_12 => ?_)
    · rw [if_neg (fun qq => (of_decide_eq_true qq.1).2 c_12)]
      refine hv_iconst (v := -1) dX11_motion_24 (by decide) ?_
      refine hv_iret dX11_motion_25 rfl ?_
      exact ⟨rfl, rfl, rfl, fun _ _ => rfl⟩
    · refine hv_iload_n dX11_motion_15 rfl ?_
      refine hv_if_lt (tgt := 24) dX11_motion_16 (by decide) (fun c_16 => ?_) (fun c_16 => ?_)
      · rw [if_neg (fun qq => Int32.not_lt.mpr (of_decide_eq_true qq.2).1 c_16)]
        refine hv_iconst (v := -1) dX11_motion_24 (by decide) ?_
        refine hv_iret dX11_motion_25 rfl ?_
        exact ⟨rfl, rfl, rfl, fun _ _ => rfl⟩
      · refine hv_iload_n dX11_motion_19 rfl ?_
        refine hv_iconst (v := 2) dX11_motion_20 (by decide) ?_
        refine hv_icmp_le (tgt := 26) dX11_motion_21 (by decide) (fun c_21 => ?_) (fun c_21 => ?_)
        · have hih : isH mo m = true := decide_eq_true ⟨c_1, c_12⟩
          rw [if_pos ⟨hih, decide_eq_true ⟨Int32.not_lt.mp c_16, c_21⟩⟩]
          obtain ⟨i, hi, rfl⟩ := isH_ix (by omega) hih
          rw [nI_clamp (by omega)]
          obtain ⟨hsi, hs128⟩ := hsp i hi
          refine hv_aload_n dX11_motion_26 rfl ?_
          refine hv_getr dX11_motion_27 fl_X11_67 (by first | rfl | assumption) rfl (by first | rfl | assumption) ?_
          refine hv_aload_n dX11_motion_30 rfl ?_
          refine hv_getr dX11_motion_31 fl_X11_81 (by first | rfl | assumption) rfl (by first | rfl | assumption) ?_
          refine hv_aload_n dX11_motion_34 rfl ?_
          refine hv_getr dX11_motion_35 fl_X11_44 (by first | rfl | assumption) rfl (by first | rfl | assumption) ?_
          refine hv_cv2 (c_gather ok hs5 hpr hvv) dX11_motion_38 ml_X11_260 mk_X0_gather (by first | rfl | assumption) rfl rfl rfl rfl rfl ?_
          rintro _ _ σ1 _ ⟨rfl, rfl, rfl, hq1, hq2, hq3, hq4⟩
          have e44 : σ1 44 i = nI (sp i) := by rw [hq1 44 (by decide)]; exact hsi
          refine hv_aload_n dX11_motion_41 rfl ?_
          refine hv_getr dX11_motion_42 fl_X11_81 (by first | rfl | assumption) rfl (by first | rfl | assumption) ?_
          refine hv_getr dX11_motion_45 fl_X11_294 (by first | rfl | assumption) rfl (by first | rfl | assumption) ?_
          refine hv_iload_n dX11_motion_48 rfl ?_
          refine hv_iald dX11_motion_49 (by first | rfl | assumption) rfl (by first | assumption | omega) (by first | decide | assumption) ?_
          rw [e44]
          refine hv_istore_n dX11_motion_50 rfl rfl ?_
          refine hv_aload_n dX11_motion_51 rfl ?_
          refine hv_getr dX11_motion_52 fl_X11_67 (by first | rfl | assumption) rfl (by first | rfl | assumption) ?_
          refine hv_aload_n dX11_motion_55 rfl ?_
          refine hv_getr dX11_motion_56 fl_X11_67 (by first | rfl | assumption) rfl (by first | rfl | assumption) ?_
          refine hv_getr dX11_motion_59 fl_X11_279 (by first | rfl | assumption) rfl (by first | rfl | assumption) ?_
          refine hv_iload_n dX11_motion_62 rfl ?_
          refine hv_cv2 (c_csum rfl hs128) dX11_motion_63 ml_X11_297 mk_X0_sum (by first | rfl | assumption) rfl rfl rfl rfl rfl ?_
          rintro _ _ _ _ ⟨rfl, rfl, rfl, rfl⟩
          rw [← hC (σ1 32) hq4 i hi]
          refine hv_istore dX11_motion_66 rfl rfl ?_
          refine hv_iload_n dX11_motion_68 rfl ?_
          refine hv_if_ne (tgt := 93) dX11_motion_69 (by decide) (fun c_69 => ?_) (fun c_69 => ?_)
          · rw [if_neg c_69]
            refine hv_iload_n dX11_motion_93 rfl ?_
            refine hv_iconst (v := 1) dX11_motion_94 (by decide) ?_
            refine hv_icmp_ne (tgt := 103) dX11_motion_95 (by decide) (fun c_95 => ?_) (fun c_95 => ?_)
            · rw [if_neg c_95]
              refine hv_aload_n dX11_motion_103 rfl ?_
              refine hv_getr dX11_motion_104 fl_X11_67 (by first | rfl | assumption) rfl (by first | rfl | assumption) ?_
              refine hv_aload_n dX11_motion_107 rfl ?_
              refine hv_getr dX11_motion_108 fl_X11_67 (by first | rfl | assumption) rfl (by first | rfl | assumption) ?_
              refine hv_getr dX11_motion_111 fl_X11_279 (by first | rfl | assumption) rfl (by first | rfl | assumption) ?_
              refine hv_iload_n dX11_motion_114 rfl ?_
              refine hv_aload_n dX11_motion_115 rfl ?_
              refine hv_getr dX11_motion_116 fl_X11_81 (by first | rfl | assumption) rfl (by first | rfl | assumption) ?_
              refine hv_geti dX11_motion_119 fl_X11_241 (by first | rfl | assumption) rfl ?_
              rw [hq1 38 (by decide), ok.1]
              refine hv_cv3 (c_fewestToMajority rfl hs128 k2) dX11_motion_122 ml_X11_282 mk_X0_fewestToMajority (by first | rfl | assumption) rfl rfl rfl rfl rfl ?_
              rintro _ _ _ _ ⟨rfl, rfl, rfl, rfl⟩
              rw [← hR (σ1 32) hq4 i hi]
              refine hv_iret dX11_motion_125 rfl ?_
              exact ⟨rfl, rfl, rfl, off_wk hq1 (by decide)⟩
            · rw [if_pos c_95]
              refine hv_iload dX11_motion_98 rfl ?_
              refine hv_goto (tgt := 125) dX11_motion_100 (by decide) ?_
              refine hv_iret dX11_motion_125 rfl ?_
              exact ⟨rfl, rfl, rfl, off_wk hq1 (by decide)⟩
          · rw [if_pos c_69]
            refine hv_iload dX11_motion_72 rfl ?_
            refine hv_aload_n dX11_motion_74 rfl ?_
            refine hv_getr dX11_motion_75 fl_X11_67 (by first | rfl | assumption) rfl (by first | rfl | assumption) ?_
            refine hv_geti dX11_motion_78 fl_X11_301 (by first | rfl | assumption) rfl ?_
            refine hv_iload dX11_motion_81 rfl ?_
            refine hv_isub dX11_motion_83 ?_
            rw [hq3]
            refine hv_icmp_le (tgt := 91) dX11_motion_84 (by decide) (fun c_84 => ?_) (fun c_84 => ?_)
            · rw [if_pos c_84]
              refine hv_iconst (v := 0) dX11_motion_91 (by decide) ?_
              refine hv_iret dX11_motion_92 rfl ?_
              exact ⟨rfl, rfl, rfl, off_wk hq1 (by decide)⟩
            · rw [if_neg c_84]
              refine hv_iconst (v := 1) dX11_motion_87 (by decide) ?_
              refine hv_goto (tgt := 92) dX11_motion_88 (by decide) ?_
              refine hv_iret dX11_motion_92 rfl ?_
              exact ⟨rfl, rfl, rfl, off_wk hq1 (by decide)⟩
        · rw [if_neg (fun qq => c_21 (of_decide_eq_true qq.2).2)]
          refine hv_iconst (v := -1) dX11_motion_24 (by decide) ?_
          refine hv_iret dX11_motion_25 rfl ?_
          exact ⟨rfl, rfl, rfl, fun _ _ => rfl⟩
theorem c_deals {h sz : Nat} {w P : Int32} (ok : okC σ h sz) (hs5 : σ 11 5 = nI h) (hP : P = fPrice (twC σ h sz) (dyC σ 11)) : hCal G (m_X11_deals (hQx xQ (some (.int (if w = 0 ∨ w = 1 then (if w = 0 then nI (fDl (fDealA (σ 12) (σ 13) (σ 41) P) h h).1 else (fDl (fDealA (σ 12) (σ 13) (σ 41) P) h h).2) else -1))) (rr 38 51 x y) σ τ)) [.ref (hgA G 0), .int w] shp (rr 38 51 x y) σ τ := by
  have k2 := ok.2.1
  refine hv_enter pn_X11 rfl ?_
  obtain ⟨D, hD⟩ : ∃ D, fDealA (σ 12) (σ 13) (σ 41) P = D := ⟨_, rfl⟩
  rw [hD]
  generalize hQ : hQx xQ (some (.int (if w = 0 ∨ w = 1 then (if w = 0 then nI (fDl D h h).1 else (fDl D h h).2) else -1))) (rr 38 51 x y) σ τ = Q
  have cD : ∀ {g t : Nat} {σ' : hS}, (∀ c, c ∉ [49, 50] → σ' c = σ c) → g < 7 → t < 7 → hCal G (m_X11_isDeal (hEq (some (.int (bI (D g t)))) (rr 38 51 x y) σ' τ)) [.ref (hgA G 0), .int (nI g), .int (nI t), .int P] shp (rr 38 51 x y) σ' τ := by
    intro g t σ' hσ hg ht
    have cc := c_isDeal (G := G) (σ := σ') (τ := τ) (x := x) (y := y) (p := P) hg ht
    rw [hσ 12 (by decide), hσ 13 (by decide), hσ 41 (by decide), hD] at cc
    exact cc
  have inner : ∀ k t g (s : Nat × Int32) (fo : Nat) (fi : Int32) (σ' : hS), t + k = h → g < h → s.1 ≤ g * h → (∀ c, c ∉ [49, 50] → σ' c = σ c) → (fo, fi) = fDl1 D g s t → (∀ (fo2 : Nat) (fi2 : Int32), (fo2, fi2) = fDl1 D g s h → hV G (m_X11_deals Q) 0 0 shp 102 [some (.ref (hgA G 0)), some (.int w), some (.int P), some (.int (nI fo2)), some (.int fi2), some (.int (nI g)), some (.int (nI h))] [] (rr 38 51 x y) σ' τ) → hV G (m_X11_deals Q) 0 0 shp 50 [some (.ref (hgA G 0)), some (.int w), some (.int P), some (.int (nI fo)), some (.int fi), some (.int (nI g)), some (.int (nI t))] [] (rr 38 51 x y) σ' τ := by
    intro k
    induction k with
    | zero =>
      intro t g s fo fi σ' hi hg hsl hσ hff kk
      obtain rfl : t = h := by omega
      refine hv_iload dX11_deals_50 rfl ?_
      refine hv_aload_n dX11_deals_52 rfl ?_
      refine hv_getr dX11_deals_53 fl_X11_81 (by first | rfl | assumption) rfl (by first | rfl | assumption) ?_
      refine hv_geti dX11_deals_56 fl_X11_241 (by first | rfl | assumption) rfl ?_
      refine hv_icmp_ge (tgt := 102) dX11_deals_59 (by decide) (fun c_59 => ?_) (fun c_59 => absurd ((by rw [hσ 38 (by decide), ok.1]; exact nI_le (Nat.le_refl _) (by omega))) c_59)
      exact kk fo fi hff
    | succ k ih =>
      intro t g s fo fi σ' hi hg hsl hσ hff kk
      have hfl : fo ≤ 56 := by
        have hq := fDl1_le D g s t
        rw [← hff] at hq
        have hq2 : g * h ≤ 7 * 7 := Nat.mul_le_mul (by omega) k2
        have hq3 : fo ≤ s.1 + t := hq
        omega
      have hnx : fDl1 D g s (t + 1) = if D g t = true then (fo + 1, if fo = 0 then 10 * nI g + nI t else fi) else (fo, fi) := by rw [fDl1, ← hff]
      refine hv_iload dX11_deals_50 rfl ?_
      refine hv_aload_n dX11_deals_52 rfl ?_
      refine hv_getr dX11_deals_53 fl_X11_81 (by first | rfl | assumption) rfl (by first | rfl | assumption) ?_
      refine hv_geti dX11_deals_56 fl_X11_241 (by first | rfl | assumption) rfl ?_
      refine hv_icmp_ge (tgt := 102) dX11_deals_59 (by decide) (fun c_59 => absurd c_59 ((by rw [hσ 38 (by decide), ok.1]; exact nI_ge (by omega) (by omega)))) (fun c_59 => ?_)
      refine hv_aload_n dX11_deals_62 rfl ?_
      refine hv_iload dX11_deals_63 rfl ?_
      refine hv_iload dX11_deals_65 rfl ?_
      refine hv_iload_n dX11_deals_67 rfl ?_
      refine hv_cv3 (cD hσ (by omega) (by omega)) dX11_deals_68 ml_X11_337 mk_X11_isDeal (by first | rfl | assumption) rfl rfl rfl rfl rfl ?_
      rintro _ _ _ _ ⟨rfl, rfl, rfl, rfl⟩
      refine hv_if_eq (tgt := 96) dX11_deals_71 (by decide) (fun c_71 => ?_) (fun c_71 => ?_)
      · rw [if_neg (by rw [bI_0 c_71]; decide)] at hnx
        refine hv_iinc dX11_deals_96 rfl (nI_1 t) rfl rfl ?_
        refine hv_goto (tgt := 50) dX11_deals_99 (by decide) ?_
        first
          | exact ih (t + 1) g s (fo + 1) _ σ' (by omega) hg hsl hσ hnx.symm kk
          | exact ih (t + 1) g s fo fi σ' (by omega) hg hsl hσ hnx.symm kk
      · rw [if_pos (bI_1 c_71)] at hnx
        refine hv_iload_n dX11_deals_74 rfl ?_
        refine hv_if_ne (tgt := 89) dX11_deals_75 (by decide) (fun c_75 => ?_) (fun c_75 => ?_)
        · rw [if_neg (fun qq => c_75 (by rw [qq]; rfl))] at hnx
          refine hv_iload dX11_deals_89 rfl ?_
          refine hv_istore dX11_deals_91 rfl rfl ?_
          refine hv_iinc dX11_deals_93 rfl (nI_1 fo) rfl rfl ?_
          refine hv_iinc dX11_deals_96 rfl (nI_1 t) rfl rfl ?_
          refine hv_goto (tgt := 50) dX11_deals_99 (by decide) ?_
          first
            | exact ih (t + 1) g s (fo + 1) _ σ' (by omega) hg hsl hσ hnx.symm kk
            | exact ih (t + 1) g s fo fi σ' (by omega) hg hsl hσ hnx.symm kk
        · rw [if_pos ((nI_eq (b := 0) (by omega) (by decide)).mp c_75)] at hnx
          refine hv_bipush (v := 10) dX11_deals_78 (by decide) ?_
          refine hv_iload dX11_deals_80 rfl ?_
          refine hv_imul dX11_deals_82 ?_
          refine hv_iload dX11_deals_83 rfl ?_
          refine hv_iadd dX11_deals_85 ?_
          refine hv_goto (tgt := 91) dX11_deals_86 (by decide) ?_
          refine hv_istore dX11_deals_91 rfl rfl ?_
          refine hv_iinc dX11_deals_93 rfl (nI_1 fo) rfl rfl ?_
          refine hv_iinc dX11_deals_96 rfl (nI_1 t) rfl rfl ?_
          refine hv_goto (tgt := 50) dX11_deals_99 (by decide) ?_
          first
            | exact ih (t + 1) g s (fo + 1) _ σ' (by omega) hg hsl hσ hnx.symm kk
            | exact ih (t + 1) g s fo fi σ' (by omega) hg hsl hσ hnx.symm kk
  have outer : ∀ k g (fo : Nat) (fi : Int32) (i6 : Option Value) (σ' : hS), g + k = h → (∀ c, c ∉ [49, 50] → σ' c = σ c) → (w = 0 ∨ w = 1) → (fo, fi) = fDl D h g → hV G (m_X11_deals Q) 0 0 shp 35 [some (.ref (hgA G 0)), some (.int w), some (.int P), some (.int (nI fo)), some (.int fi), some (.int (nI g)), i6] [] (rr 38 51 x y) σ' τ := by
    intro k
    induction k with
    | zero =>
      intro g fo fi i6 σ' hi hσ hw hff
      obtain rfl : g = h := by omega
      refine hv_iload dX11_deals_35 rfl ?_
      refine hv_aload_n dX11_deals_37 rfl ?_
      refine hv_getr dX11_deals_38 fl_X11_81 (by first | rfl | assumption) rfl (by first | rfl | assumption) ?_
      refine hv_geti dX11_deals_41 fl_X11_241 (by first | rfl | assumption) rfl ?_
      refine hv_icmp_ge (tgt := 108) dX11_deals_44 (by decide) (fun c_44 => ?_) (fun c_44 => absurd ((by rw [hσ 38 (by decide), ok.1]; exact nI_le (Nat.le_refl _) (by omega))) c_44)
      refine hv_iload_n dX11_deals_108 rfl ?_
      refine hv_if_ne (tgt := 116) dX11_deals_109 (by decide) (fun c_109 => ?_) (fun c_109 => ?_)
      · refine hv_iload dX11_deals_116 rfl ?_
        refine hv_iret dX11_deals_118 rfl ?_
        rw [← hQ, if_pos hw, ← hff]
        first | (rw [if_pos c_109]; exact ⟨rfl, rfl, rfl, off_wk hσ (by decide)⟩) | (rw [if_neg c_109]; exact ⟨rfl, rfl, rfl, off_wk hσ (by decide)⟩)
      · refine hv_iload_n dX11_deals_112 rfl ?_
        refine hv_goto (tgt := 118) dX11_deals_113 (by decide) ?_
        refine hv_iret dX11_deals_118 rfl ?_
        rw [← hQ, if_pos hw, ← hff]
        first | (rw [if_pos c_109]; exact ⟨rfl, rfl, rfl, off_wk hσ (by decide)⟩) | (rw [if_neg c_109]; exact ⟨rfl, rfl, rfl, off_wk hσ (by decide)⟩)
    | succ k ih =>
      intro g fo fi i6 σ' hi hσ hw hff
      refine hv_iload dX11_deals_35 rfl ?_
      refine hv_aload_n dX11_deals_37 rfl ?_
      refine hv_getr dX11_deals_38 fl_X11_81 (by first | rfl | assumption) rfl (by first | rfl | assumption) ?_
      refine hv_geti dX11_deals_41 fl_X11_241 (by first | rfl | assumption) rfl ?_
      refine hv_icmp_ge (tgt := 108) dX11_deals_44 (by decide) (fun c_44 => absurd c_44 ((by rw [hσ 38 (by decide), ok.1]; exact nI_ge (by omega) (by omega)))) (fun c_44 => ?_)
      refine hv_iconst (v := 0) dX11_deals_47 (by decide) ?_
      refine hv_istore dX11_deals_48 rfl rfl ?_
      refine inner h 0 g (fDl D h g) fo fi σ' (by omega) (by omega) (fDl_le D h g) hσ hff ?_
      intro fo2 fi2 hf2
      refine hv_iinc dX11_deals_102 rfl (nI_1 g) rfl rfl ?_
      refine hv_goto (tgt := 35) dX11_deals_105 (by decide) ?_
      exact ih (g + 1) fo2 fi2 _ σ' (by omega) hσ hw hf2
  refine hv_aload_n dX11_deals_0 rfl ?_
  refine hv_iload_n dX11_deals_1 rfl ?_
  refine hv_cv1 (c_isFS) dX11_deals_2 ml_X11_238 mk_X11_isFirstOrSecond (by first | rfl | assumption) rfl rfl rfl rfl rfl ?_
  rintro _ _ _ _ ⟨rfl, rfl, rfl, rfl⟩
  refine hv_if_ne (tgt := 10) dX11_deals_5 (by decide) (fun c_5 => ?_) (fun c_5 => ?_)
  · refine hv_aload_n dX11_deals_10 rfl ?_
    refine hv_getr dX11_deals_11 fl_X11_58 (by first | rfl | assumption) rfl (by first | rfl | assumption) ?_
    refine hv_aload_n dX11_deals_14 rfl ?_
    refine hv_getr dX11_deals_15 fl_X11_81 (by first | rfl | assumption) rfl (by first | rfl | assumption) ?_
    refine hv_aload_n dX11_deals_18 rfl ?_
    refine hv_getr dX11_deals_19 fl_X11_44 (by first | rfl | assumption) rfl (by first | rfl | assumption) ?_
    refine hv_cv2 (c_price_11 ok hs5) dX11_deals_22 ml_X11_180 mk_X2_price (by first | rfl | assumption) rfl rfl rfl rfl rfl ?_
    rintro _ _ σ1 _ ⟨rfl, rfl, rfl, hq1⟩
    rw [← hP]
    refine hv_istore_n dX11_deals_25 rfl rfl ?_
    refine hv_iconst (v := 0) dX11_deals_26 (by decide) ?_
    refine hv_istore_n dX11_deals_27 rfl rfl ?_
    refine hv_bipush (v := -2) dX11_deals_28 (by decide) ?_
    refine hv_istore dX11_deals_30 rfl rfl ?_
    refine hv_iconst (v := 0) dX11_deals_32 (by decide) ?_
    refine hv_istore dX11_deals_33 rfl rfl ?_
    exact outer h 0 0 (-2) none σ1 (by omega) hq1 (of_decide_eq_true (bI_1 c_5)) rfl
  · refine hv_iconst (v := -1) dX11_deals_8 (by decide) ?_
    refine hv_iret dX11_deals_9 rfl ?_
    rw [← hQ, if_neg (of_decide_eq_false (bI_0 c_5))]; exact ⟨rfl, rfl, rfl, fun _ _ => rfl⟩
end S30

