abbrev m_X6_write (Q : hPo) : hMe := (hrm 1, 0, 0, yX6_write, cX6_write, 3, (none : Option FieldType), shp, none, Q)
abbrev m_X6_take (Q : hPo) : hMe := (hrm 1, 0, 0, yX6_take, cX6_take, 3, (none : Option FieldType), shp, none, Q)
abbrev m_X5_rowOf (Q : hPo) : hMe := (hrm 0, 0, 0, yX5_rowOf, cX5_rowOf, 2, (some FieldType.int), shp, none, Q)
abbrev m_X5_keep (Q : hPo) : hMe := (hrm 2, 0, 0, yX5_keep, cX5_keep, 2, (none : Option FieldType), shp, none, Q)
abbrev m_X5_bringBack (Q : hPo) : hMe := (hrm 2, 0, 0, yX5_bringBack, cX5_bringBack, 2, (some FieldType.boolean), shp, none, Q)
abbrev m_X5_store (Q : hPo) : hMe := (hrm 2, 0, 0, yX5_store, cX5_store, 3, (some FieldType.boolean), shp, none, Q)
abbrev m_X5_fetch (Q : hPo) : hMe := (hrm 2, 0, 0, yX5_fetch, cX5_fetch, 3, (some FieldType.boolean), shp, none, Q)
abbrev m_X5_slotsHeld (Q : hPo) : hMe := (hrm 0, 0, 0, yX5_slotsHeld, cX5_slotsHeld, 3, (some FieldType.int), shp, none, Q)
abbrev m_X5_clear (Q : hPo) : hMe := (hrm 0, 0, 0, yX5_clear, cX5_clear, 2, (none : Option FieldType), shp, none, Q)
/-- f holds the state of σ from place p on -/
def pRow (f : hF) (p : Nat) (σ : hS) : Prop := (∀ a, a < 7 → f (p + a) = σ 12 a ∧ f (p + 7 + a) = σ 13 a ∧ f (p + 14 + a) = σ 14 a ∧ f (p + 21 + a) = σ 15 a ∧ f (p + 28 + a) = σ 16 a) ∧ f (p + 35) = σ 11 5 ∧ f (p + 36) = σ 11 6 ∧ f (p + 37) = σ 11 7
theorem cpy_at {f g : hF} {sp dp n j k : Nat} (hjk : j = dp + k) (hk : k < n) : va_cpy f g sp dp n j = f (sp + k) := by
  subst hjk
  rw [pk_cpy_in (by omega) (by omega)]
  congr 1
  omega
section S19
variable {G : hGl} {σ : hS} {τ : hT} {x y : Option Nat}
theorem c_write_18 {p : Nat} (hp : p + 38 ≤ 1520) : hCal G (m_X6_write (hQp [18] none (rr 38 51 x y) σ τ (fun σ' => pRow (σ' 18) p σ ∧ ∀ j, j < p ∨ p + 38 ≤ j → σ' 18 j = σ 18 j))) [.ref (hgA G 11), .ref (hgA G 18), .int (nI p)] shp (rr 38 51 x y) σ τ := by
  refine hv_enter pn_X6 rfl ?_
  refine hv_aload_n dX6_write_0 rfl ?_
  refine hv_getr dX6_write_1 fl_X6_9 (by first | rfl | assumption) rfl (by first | rfl | assumption) ?_
  refine hv_iconst (v := 0) dX6_write_4 (by decide) ?_
  refine hv_aload_n dX6_write_5 rfl ?_
  refine hv_iload_n dX6_write_6 rfl ?_
  refine hv_bipush (v := 7) dX6_write_7 (by decide) ?_
  refine hv_copy dX6_write_9 ml_X6_43 (by first | rfl | assumption) (by first | rfl | assumption) (n := 7) rfl rfl rfl (by decide) (by omega) (by decide) rfl rfl hacp ?_
  refine hv_aload_n dX6_write_12 rfl ?_
  refine hv_getr dX6_write_13 fl_X6_15 (by first | rfl | assumption) rfl (by first | rfl | assumption) ?_
  refine hv_iconst (v := 0) dX6_write_16 (by decide) ?_
  refine hv_aload_n dX6_write_17 rfl ?_
  refine hv_iload_n dX6_write_18 rfl ?_
  refine hv_bipush (v := 7) dX6_write_19 (by decide) ?_
  refine hv_iadd dX6_write_21 ?_
  refine hv_bipush (v := 7) dX6_write_22 (by decide) ?_
  refine hv_copy dX6_write_24 ml_X6_43 (by first | rfl | assumption) (by first | rfl | assumption) (n := 7) rfl (nI_add p 7) rfl (by decide) (by omega) (by decide) rfl rfl hacp ?_
  refine hv_aload_n dX6_write_27 rfl ?_
  refine hv_getr dX6_write_28 fl_X6_18 (by first | rfl | assumption) rfl (by first | rfl | assumption) ?_
  refine hv_iconst (v := 0) dX6_write_31 (by decide) ?_
  refine hv_aload_n dX6_write_32 rfl ?_
  refine hv_iload_n dX6_write_33 rfl ?_
  refine hv_bipush (v := 14) dX6_write_34 (by decide) ?_
  refine hv_iadd dX6_write_36 ?_
  refine hv_bipush (v := 7) dX6_write_37 (by decide) ?_
  refine hv_copy dX6_write_39 ml_X6_43 (by first | rfl | assumption) (by first | rfl | assumption) (n := 7) rfl (nI_add p 14) rfl (by decide) (by omega) (by decide) rfl rfl hacp ?_
  refine hv_aload_n dX6_write_42 rfl ?_
  refine hv_getr dX6_write_43 fl_X6_21 (by first | rfl | assumption) rfl (by first | rfl | assumption) ?_
  refine hv_iconst (v := 0) dX6_write_46 (by decide) ?_
  refine hv_aload_n dX6_write_47 rfl ?_
  refine hv_iload_n dX6_write_48 rfl ?_
  refine hv_bipush (v := 21) dX6_write_49 (by decide) ?_
  refine hv_iadd dX6_write_51 ?_
  refine hv_bipush (v := 7) dX6_write_52 (by decide) ?_
  refine hv_copy dX6_write_54 ml_X6_43 (by first | rfl | assumption) (by first | rfl | assumption) (n := 7) rfl (nI_add p 21) rfl (by decide) (by omega) (by decide) rfl rfl hacp ?_
  refine hv_aload_n dX6_write_57 rfl ?_
  refine hv_getr dX6_write_58 fl_X6_24 (by first | rfl | assumption) rfl (by first | rfl | assumption) ?_
  refine hv_iconst (v := 0) dX6_write_61 (by decide) ?_
  refine hv_aload_n dX6_write_62 rfl ?_
  refine hv_iload_n dX6_write_63 rfl ?_
  refine hv_bipush (v := 28) dX6_write_64 (by decide) ?_
  refine hv_iadd dX6_write_66 ?_
  refine hv_bipush (v := 7) dX6_write_67 (by decide) ?_
  refine hv_copy dX6_write_69 ml_X6_43 (by first | rfl | assumption) (by first | rfl | assumption) (n := 7) rfl (nI_add p 28) rfl (by decide) (by omega) (by decide) rfl rfl hacp ?_
  refine hv_aload_n dX6_write_72 rfl ?_
  refine hv_iload_n dX6_write_73 rfl ?_
  refine hv_bipush (v := 38) dX6_write_74 (by decide) ?_
  refine hv_iadd dX6_write_76 ?_
  refine hv_iconst (v := 3) dX6_write_77 (by decide) ?_
  refine hv_isub dX6_write_78 ?_
  refine hv_aload_n dX6_write_79 rfl ?_
  refine hv_geti dX6_write_80 fl_X6_33 (by first | rfl | assumption) rfl ?_
  refine hv_iast dX6_write_83 (by first | rfl | assumption) (j := p + 35) (by rw [show (38 : Int32) = nI 38 from rfl, show (3 : Int32) = nI 3 from rfl, nI_add, pk_sub (by omega)]; rfl) (by omega) (by first | decide | assumption) ?_
  refine hv_aload_n dX6_write_84 rfl ?_
  refine hv_iload_n dX6_write_85 rfl ?_
  refine hv_bipush (v := 38) dX6_write_86 (by decide) ?_
  refine hv_iadd dX6_write_88 ?_
  refine hv_iconst (v := 2) dX6_write_89 (by decide) ?_
  refine hv_isub dX6_write_90 ?_
  refine hv_aload_n dX6_write_91 rfl ?_
  refine hv_geti dX6_write_92 fl_X6_34 (by first | rfl | assumption) rfl ?_
  refine hv_iast dX6_write_95 (by first | rfl | assumption) (j := p + 36) (by rw [show (38 : Int32) = nI 38 from rfl, show (2 : Int32) = nI 2 from rfl, nI_add, pk_sub (by omega)]; rfl) (by omega) (by first | decide | assumption) ?_
  refine hv_aload_n dX6_write_96 rfl ?_
  refine hv_iload_n dX6_write_97 rfl ?_
  refine hv_bipush (v := 38) dX6_write_98 (by decide) ?_
  refine hv_iadd dX6_write_100 ?_
  refine hv_iconst (v := 1) dX6_write_101 (by decide) ?_
  refine hv_isub dX6_write_102 ?_
  refine hv_aload_n dX6_write_103 rfl ?_
  refine hv_geti dX6_write_104 fl_X6_40 (by first | rfl | assumption) rfl ?_
  refine hv_iast dX6_write_107 (by first | rfl | assumption) (j := p + 37) (by rw [show (38 : Int32) = nI 38 from rfl, show (1 : Int32) = nI 1 from rfl, nI_add, pk_sub (by omega)]; rfl) (by omega) (by first | decide | assumption) ?_
  refine hv_vret dX6_write_108 rfl ?_
  refine ⟨rfl, rfl, rfl, fun c hc => ?_, ⟨fun a ha => ?_, ?_, ?_, ?_⟩, fun j hj => ?_⟩
  · have hce : c ≠ 18 := by simpa using hc
    simp only [hva_ne hce]
  · simp only [hup_eq, hva_ne (show (12 : Nat) ≠ 18 by decide), hva_ne (show (13 : Nat) ≠ 18 by decide), hva_ne (show (14 : Nat) ≠ 18 by decide), hva_ne (show (15 : Nat) ≠ 18 by decide), hva_ne (show (16 : Nat) ≠ 18 by decide)]
    refine ⟨?_, ?_, ?_, ?_, ?_⟩
    · rw [pk_un (by omega), pk_un (by omega), pk_un (by omega), pk_cpy_out (by omega), pk_cpy_out (by omega), pk_cpy_out (by omega), pk_cpy_out (by omega), cpy_at (k := a) rfl ha, Nat.zero_add]
    · rw [pk_un (by omega), pk_un (by omega), pk_un (by omega), pk_cpy_out (by omega), pk_cpy_out (by omega), pk_cpy_out (by omega), cpy_at (k := a) rfl ha, Nat.zero_add]
    · rw [pk_un (by omega), pk_un (by omega), pk_un (by omega), pk_cpy_out (by omega), pk_cpy_out (by omega), cpy_at (k := a) rfl ha, Nat.zero_add]
    · rw [pk_un (by omega), pk_un (by omega), pk_un (by omega), pk_cpy_out (by omega), cpy_at (k := a) rfl ha, Nat.zero_add]
    · rw [pk_un (by omega), pk_un (by omega), pk_un (by omega), cpy_at (k := a) rfl ha, Nat.zero_add]
  · simp only [hup_eq, hva_ne (show (11 : Nat) ≠ 18 by decide)]
    rw [pk_un (by omega), pk_un (by omega), pk_us]
  · simp only [hup_eq, hva_ne (show (11 : Nat) ≠ 18 by decide)]
    rw [pk_un (by omega), pk_us]
  · simp only [hup_eq, hva_ne (show (11 : Nat) ≠ 18 by decide)]
    rw [pk_us]
  · simp only [hup_eq]
    rw [pk_un (by omega), pk_un (by omega), pk_un (by omega), pk_cpy_out (by omega), pk_cpy_out (by omega), pk_cpy_out (by omega), pk_cpy_out (by omega), pk_cpy_out (by omega)]
theorem c_take_18 {p : Nat} (hp : p + 38 ≤ 1520) : hCal G (m_X6_take (hQp [11, 12, 13, 14, 15, 16] none (rr 38 51 x y) σ τ (fun σ' => pRow (σ 18) p σ'))) [.ref (hgA G 11), .ref (hgA G 18), .int (nI p)] shp (rr 38 51 x y) σ τ := by
  refine hv_enter pn_X6 rfl ?_
  refine hv_aload_n dX6_take_0 rfl ?_
  refine hv_iload_n dX6_take_1 rfl ?_
  refine hv_aload_n dX6_take_2 rfl ?_
  refine hv_getr dX6_take_3 fl_X6_9 (by first | rfl | assumption) rfl (by first | rfl | assumption) ?_
  refine hv_iconst (v := 0) dX6_take_6 (by decide) ?_
  refine hv_bipush (v := 7) dX6_take_7 (by decide) ?_
  refine hv_copy dX6_take_9 ml_X6_43 (by first | rfl | assumption) (by first | rfl | assumption) (n := 7) rfl rfl rfl (by omega) (by decide) (by decide) rfl rfl hacp ?_
  refine hv_aload_n dX6_take_12 rfl ?_
  refine hv_iload_n dX6_take_13 rfl ?_
  refine hv_bipush (v := 7) dX6_take_14 (by decide) ?_
  refine hv_iadd dX6_take_16 ?_
  refine hv_aload_n dX6_take_17 rfl ?_
  refine hv_getr dX6_take_18 fl_X6_15 (by first | rfl | assumption) rfl (by first | rfl | assumption) ?_
  refine hv_iconst (v := 0) dX6_take_21 (by decide) ?_
  refine hv_bipush (v := 7) dX6_take_22 (by decide) ?_
  refine hv_copy dX6_take_24 ml_X6_43 (by first | rfl | assumption) (by first | rfl | assumption) (n := 7) (nI_add p 7) rfl rfl (by omega) (by decide) (by decide) rfl rfl hacp ?_
  refine hv_aload_n dX6_take_27 rfl ?_
  refine hv_iload_n dX6_take_28 rfl ?_
  refine hv_bipush (v := 14) dX6_take_29 (by decide) ?_
  refine hv_iadd dX6_take_31 ?_
  refine hv_aload_n dX6_take_32 rfl ?_
  refine hv_getr dX6_take_33 fl_X6_18 (by first | rfl | assumption) rfl (by first | rfl | assumption) ?_
  refine hv_iconst (v := 0) dX6_take_36 (by decide) ?_
  refine hv_bipush (v := 7) dX6_take_37 (by decide) ?_
  refine hv_copy dX6_take_39 ml_X6_43 (by first | rfl | assumption) (by first | rfl | assumption) (n := 7) (nI_add p 14) rfl rfl (by omega) (by decide) (by decide) rfl rfl hacp ?_
  refine hv_aload_n dX6_take_42 rfl ?_
  refine hv_iload_n dX6_take_43 rfl ?_
  refine hv_bipush (v := 21) dX6_take_44 (by decide) ?_
  refine hv_iadd dX6_take_46 ?_
  refine hv_aload_n dX6_take_47 rfl ?_
  refine hv_getr dX6_take_48 fl_X6_21 (by first | rfl | assumption) rfl (by first | rfl | assumption) ?_
  refine hv_iconst (v := 0) dX6_take_51 (by decide) ?_
  refine hv_bipush (v := 7) dX6_take_52 (by decide) ?_
  refine hv_copy dX6_take_54 ml_X6_43 (by first | rfl | assumption) (by first | rfl | assumption) (n := 7) (nI_add p 21) rfl rfl (by omega) (by decide) (by decide) rfl rfl hacp ?_
  refine hv_aload_n dX6_take_57 rfl ?_
  refine hv_iload_n dX6_take_58 rfl ?_
  refine hv_bipush (v := 28) dX6_take_59 (by decide) ?_
  refine hv_iadd dX6_take_61 ?_
  refine hv_aload_n dX6_take_62 rfl ?_
  refine hv_getr dX6_take_63 fl_X6_24 (by first | rfl | assumption) rfl (by first | rfl | assumption) ?_
  refine hv_iconst (v := 0) dX6_take_66 (by decide) ?_
  refine hv_bipush (v := 7) dX6_take_67 (by decide) ?_
  refine hv_copy dX6_take_69 ml_X6_43 (by first | rfl | assumption) (by first | rfl | assumption) (n := 7) (nI_add p 28) rfl rfl (by omega) (by decide) (by decide) rfl rfl hacp ?_
  refine hv_aload_n dX6_take_72 rfl ?_
  refine hv_aload_n dX6_take_73 rfl ?_
  refine hv_iload_n dX6_take_74 rfl ?_
  refine hv_bipush (v := 38) dX6_take_75 (by decide) ?_
  refine hv_iadd dX6_take_77 ?_
  refine hv_iconst (v := 3) dX6_take_78 (by decide) ?_
  refine hv_isub dX6_take_79 ?_
  refine hv_iald dX6_take_80 (by first | rfl | assumption) (j := p + 35) (by rw [show (38 : Int32) = nI 38 from rfl, show (3 : Int32) = nI 3 from rfl, nI_add, pk_sub (by omega)]; rfl) (by omega) (by first | decide | assumption) ?_
  refine hv_puti dX6_take_81 fl_X6_33 (by first | rfl | assumption) rfl rfl rfl ?_
  refine hv_aload_n dX6_take_84 rfl ?_
  refine hv_aload_n dX6_take_85 rfl ?_
  refine hv_iload_n dX6_take_86 rfl ?_
  refine hv_bipush (v := 38) dX6_take_87 (by decide) ?_
  refine hv_iadd dX6_take_89 ?_
  refine hv_iconst (v := 2) dX6_take_90 (by decide) ?_
  refine hv_isub dX6_take_91 ?_
  refine hv_iald dX6_take_92 (by first | rfl | assumption) (j := p + 36) (by rw [show (38 : Int32) = nI 38 from rfl, show (2 : Int32) = nI 2 from rfl, nI_add, pk_sub (by omega)]; rfl) (by omega) (by first | decide | assumption) ?_
  refine hv_puti dX6_take_93 fl_X6_34 (by first | rfl | assumption) rfl rfl rfl ?_
  refine hv_aload_n dX6_take_96 rfl ?_
  refine hv_aload_n dX6_take_97 rfl ?_
  refine hv_iload_n dX6_take_98 rfl ?_
  refine hv_bipush (v := 38) dX6_take_99 (by decide) ?_
  refine hv_iadd dX6_take_101 ?_
  refine hv_iconst (v := 1) dX6_take_102 (by decide) ?_
  refine hv_isub dX6_take_103 ?_
  refine hv_iald dX6_take_104 (by first | rfl | assumption) (j := p + 37) (by rw [show (38 : Int32) = nI 38 from rfl, show (1 : Int32) = nI 1 from rfl, nI_add, pk_sub (by omega)]; rfl) (by omega) (by first | decide | assumption) ?_
  refine hv_puti dX6_take_105 fl_X6_40 (by first | rfl | assumption) rfl rfl rfl ?_
  refine hv_vret dX6_take_108 rfl ?_
  refine ⟨rfl, rfl, rfl, fun c hc => ?_, fun a ha => ?_, ?_, ?_, ?_⟩
  · simp only [List.mem_cons, List.not_mem_nil, or_false, not_or] at hc
    obtain ⟨e1, e2, e3, e4, e5, e6⟩ := hc
    simp only [va_up, e1, e2, e3, e4, e5, e6, if_false]
  · refine ⟨?_, ?_, ?_, ?_, ?_⟩ <;> simp [va_up, va_cpy, ha]
  · simp [va_up, upd]
  · simp [va_up, upd]
  · simp [va_up, upd]
theorem c_write_19 {p : Nat} (hp : p + 38 ≤ 114) : hCal G (m_X6_write (hQp [19] none (rr 38 51 x y) σ τ (fun σ' => pRow (σ' 19) p σ ∧ ∀ j, j < p ∨ p + 38 ≤ j → σ' 19 j = σ 19 j))) [.ref (hgA G 11), .ref (hgA G 19), .int (nI p)] shp (rr 38 51 x y) σ τ := by
  refine hv_enter pn_X6 rfl ?_
  refine hv_aload_n dX6_write_0 rfl ?_
  refine hv_getr dX6_write_1 fl_X6_9 (by first | rfl | assumption) rfl (by first | rfl | assumption) ?_
  refine hv_iconst (v := 0) dX6_write_4 (by decide) ?_
  refine hv_aload_n dX6_write_5 rfl ?_
  refine hv_iload_n dX6_write_6 rfl ?_
  refine hv_bipush (v := 7) dX6_write_7 (by decide) ?_
  refine hv_copy dX6_write_9 ml_X6_43 (by first | rfl | assumption) (by first | rfl | assumption) (n := 7) rfl rfl rfl (by decide) (by omega) (by decide) rfl rfl hacp ?_
  refine hv_aload_n dX6_write_12 rfl ?_
  refine hv_getr dX6_write_13 fl_X6_15 (by first | rfl | assumption) rfl (by first | rfl | assumption) ?_
  refine hv_iconst (v := 0) dX6_write_16 (by decide) ?_
  refine hv_aload_n dX6_write_17 rfl ?_
  refine hv_iload_n dX6_write_18 rfl ?_
  refine hv_bipush (v := 7) dX6_write_19 (by decide) ?_
  refine hv_iadd dX6_write_21 ?_
  refine hv_bipush (v := 7) dX6_write_22 (by decide) ?_
  refine hv_copy dX6_write_24 ml_X6_43 (by first | rfl | assumption) (by first | rfl | assumption) (n := 7) rfl (nI_add p 7) rfl (by decide) (by omega) (by decide) rfl rfl hacp ?_
  refine hv_aload_n dX6_write_27 rfl ?_
  refine hv_getr dX6_write_28 fl_X6_18 (by first | rfl | assumption) rfl (by first | rfl | assumption) ?_
  refine hv_iconst (v := 0) dX6_write_31 (by decide) ?_
  refine hv_aload_n dX6_write_32 rfl ?_
  refine hv_iload_n dX6_write_33 rfl ?_
  refine hv_bipush (v := 14) dX6_write_34 (by decide) ?_
  refine hv_iadd dX6_write_36 ?_
  refine hv_bipush (v := 7) dX6_write_37 (by decide) ?_
  refine hv_copy dX6_write_39 ml_X6_43 (by first | rfl | assumption) (by first | rfl | assumption) (n := 7) rfl (nI_add p 14) rfl (by decide) (by omega) (by decide) rfl rfl hacp ?_
  refine hv_aload_n dX6_write_42 rfl ?_
  refine hv_getr dX6_write_43 fl_X6_21 (by first | rfl | assumption) rfl (by first | rfl | assumption) ?_
  refine hv_iconst (v := 0) dX6_write_46 (by decide) ?_
  refine hv_aload_n dX6_write_47 rfl ?_
  refine hv_iload_n dX6_write_48 rfl ?_
  refine hv_bipush (v := 21) dX6_write_49 (by decide) ?_
  refine hv_iadd dX6_write_51 ?_
  refine hv_bipush (v := 7) dX6_write_52 (by decide) ?_
  refine hv_copy dX6_write_54 ml_X6_43 (by first | rfl | assumption) (by first | rfl | assumption) (n := 7) rfl (nI_add p 21) rfl (by decide) (by omega) (by decide) rfl rfl hacp ?_
  refine hv_aload_n dX6_write_57 rfl ?_
  refine hv_getr dX6_write_58 fl_X6_24 (by first | rfl | assumption) rfl (by first | rfl | assumption) ?_
  refine hv_iconst (v := 0) dX6_write_61 (by decide) ?_
  refine hv_aload_n dX6_write_62 rfl ?_
  refine hv_iload_n dX6_write_63 rfl ?_
  refine hv_bipush (v := 28) dX6_write_64 (by decide) ?_
  refine hv_iadd dX6_write_66 ?_
  refine hv_bipush (v := 7) dX6_write_67 (by decide) ?_
  refine hv_copy dX6_write_69 ml_X6_43 (by first | rfl | assumption) (by first | rfl | assumption) (n := 7) rfl (nI_add p 28) rfl (by decide) (by omega) (by decide) rfl rfl hacp ?_
  refine hv_aload_n dX6_write_72 rfl ?_
  refine hv_iload_n dX6_write_73 rfl ?_
  refine hv_bipush (v := 38) dX6_write_74 (by decide) ?_
  refine hv_iadd dX6_write_76 ?_
  refine hv_iconst (v := 3) dX6_write_77 (by decide) ?_
  refine hv_isub dX6_write_78 ?_
  refine hv_aload_n dX6_write_79 rfl ?_
  refine hv_geti dX6_write_80 fl_X6_33 (by first | rfl | assumption) rfl ?_
  refine hv_iast dX6_write_83 (by first | rfl | assumption) (j := p + 35) (by rw [show (38 : Int32) = nI 38 from rfl, show (3 : Int32) = nI 3 from rfl, nI_add, pk_sub (by omega)]; rfl) (by omega) (by first | decide | assumption) ?_
  refine hv_aload_n dX6_write_84 rfl ?_
  refine hv_iload_n dX6_write_85 rfl ?_
  refine hv_bipush (v := 38) dX6_write_86 (by decide) ?_
  refine hv_iadd dX6_write_88 ?_
  refine hv_iconst (v := 2) dX6_write_89 (by decide) ?_
  refine hv_isub dX6_write_90 ?_
  refine hv_aload_n dX6_write_91 rfl ?_
  refine hv_geti dX6_write_92 fl_X6_34 (by first | rfl | assumption) rfl ?_
  refine hv_iast dX6_write_95 (by first | rfl | assumption) (j := p + 36) (by rw [show (38 : Int32) = nI 38 from rfl, show (2 : Int32) = nI 2 from rfl, nI_add, pk_sub (by omega)]; rfl) (by omega) (by first | decide | assumption) ?_
  refine hv_aload_n dX6_write_96 rfl ?_
  refine hv_iload_n dX6_write_97 rfl ?_
  refine hv_bipush (v := 38) dX6_write_98 (by decide) ?_
  refine hv_iadd dX6_write_100 ?_
  refine hv_iconst (v := 1) dX6_write_101 (by decide) ?_
  refine hv_isub dX6_write_102 ?_
  refine hv_aload_n dX6_write_103 rfl ?_
  refine hv_geti dX6_write_104 fl_X6_40 (by first | rfl | assumption) rfl ?_
  refine hv_iast dX6_write_107 (by first | rfl | assumption) (j := p + 37) (by rw [show (38 : Int32) = nI 38 from rfl, show (1 : Int32) = nI 1 from rfl, nI_add, pk_sub (by omega)]; rfl) (by omega) (by first | decide | assumption) ?_
  refine hv_vret dX6_write_108 rfl ?_
  refine ⟨rfl, rfl, rfl, fun c hc => ?_, ⟨fun a ha => ?_, ?_, ?_, ?_⟩, fun j hj => ?_⟩
  · have hce : c ≠ 19 := by simpa using hc
    simp only [hva_ne hce]
  · simp only [hup_eq, hva_ne (show (12 : Nat) ≠ 19 by decide), hva_ne (show (13 : Nat) ≠ 19 by decide), hva_ne (show (14 : Nat) ≠ 19 by decide), hva_ne (show (15 : Nat) ≠ 19 by decide), hva_ne (show (16 : Nat) ≠ 19 by decide)]
    refine ⟨?_, ?_, ?_, ?_, ?_⟩
    · rw [pk_un (by omega), pk_un (by omega), pk_un (by omega), pk_cpy_out (by omega), pk_cpy_out (by omega), pk_cpy_out (by omega), pk_cpy_out (by omega), cpy_at (k := a) rfl ha, Nat.zero_add]
    · rw [pk_un (by omega), pk_un (by omega), pk_un (by omega), pk_cpy_out (by omega), pk_cpy_out (by omega), pk_cpy_out (by omega), cpy_at (k := a) rfl ha, Nat.zero_add]
    · rw [pk_un (by omega), pk_un (by omega), pk_un (by omega), pk_cpy_out (by omega), pk_cpy_out (by omega), cpy_at (k := a) rfl ha, Nat.zero_add]
    · rw [pk_un (by omega), pk_un (by omega), pk_un (by omega), pk_cpy_out (by omega), cpy_at (k := a) rfl ha, Nat.zero_add]
    · rw [pk_un (by omega), pk_un (by omega), pk_un (by omega), cpy_at (k := a) rfl ha, Nat.zero_add]
  · simp only [hup_eq, hva_ne (show (11 : Nat) ≠ 19 by decide)]
    rw [pk_un (by omega), pk_un (by omega), pk_us]
  · simp only [hup_eq, hva_ne (show (11 : Nat) ≠ 19 by decide)]
    rw [pk_un (by omega), pk_us]
  · simp only [hup_eq, hva_ne (show (11 : Nat) ≠ 19 by decide)]
    rw [pk_us]
  · simp only [hup_eq]
    rw [pk_un (by omega), pk_un (by omega), pk_un (by omega), pk_cpy_out (by omega), pk_cpy_out (by omega), pk_cpy_out (by omega), pk_cpy_out (by omega), pk_cpy_out (by omega)]
theorem c_take_19 {p : Nat} (hp : p + 38 ≤ 114) : hCal G (m_X6_take (hQp [11, 12, 13, 14, 15, 16] none (rr 38 51 x y) σ τ (fun σ' => pRow (σ 19) p σ'))) [.ref (hgA G 11), .ref (hgA G 19), .int (nI p)] shp (rr 38 51 x y) σ τ := by
  refine hv_enter pn_X6 rfl ?_
  refine hv_aload_n dX6_take_0 rfl ?_
  refine hv_iload_n dX6_take_1 rfl ?_
  refine hv_aload_n dX6_take_2 rfl ?_
  refine hv_getr dX6_take_3 fl_X6_9 (by first | rfl | assumption) rfl (by first | rfl | assumption) ?_
  refine hv_iconst (v := 0) dX6_take_6 (by decide) ?_
  refine hv_bipush (v := 7) dX6_take_7 (by decide) ?_
  refine hv_copy dX6_take_9 ml_X6_43 (by first | rfl | assumption) (by first | rfl | assumption) (n := 7) rfl rfl rfl (by omega) (by decide) (by decide) rfl rfl hacp ?_
  refine hv_aload_n dX6_take_12 rfl ?_
  refine hv_iload_n dX6_take_13 rfl ?_
  refine hv_bipush (v := 7) dX6_take_14 (by decide) ?_
  refine hv_iadd dX6_take_16 ?_
  refine hv_aload_n dX6_take_17 rfl ?_
  refine hv_getr dX6_take_18 fl_X6_15 (by first | rfl | assumption) rfl (by first | rfl | assumption) ?_
  refine hv_iconst (v := 0) dX6_take_21 (by decide) ?_
  refine hv_bipush (v := 7) dX6_take_22 (by decide) ?_
  refine hv_copy dX6_take_24 ml_X6_43 (by first | rfl | assumption) (by first | rfl | assumption) (n := 7) (nI_add p 7) rfl rfl (by omega) (by decide) (by decide) rfl rfl hacp ?_
  refine hv_aload_n dX6_take_27 rfl ?_
  refine hv_iload_n dX6_take_28 rfl ?_
  refine hv_bipush (v := 14) dX6_take_29 (by decide) ?_
  refine hv_iadd dX6_take_31 ?_
  refine hv_aload_n dX6_take_32 rfl ?_
  refine hv_getr dX6_take_33 fl_X6_18 (by first | rfl | assumption) rfl (by first | rfl | assumption) ?_
  refine hv_iconst (v := 0) dX6_take_36 (by decide) ?_
  refine hv_bipush (v := 7) dX6_take_37 (by decide) ?_
  refine hv_copy dX6_take_39 ml_X6_43 (by first | rfl | assumption) (by first | rfl | assumption) (n := 7) (nI_add p 14) rfl rfl (by omega) (by decide) (by decide) rfl rfl hacp ?_
  refine hv_aload_n dX6_take_42 rfl ?_
  refine hv_iload_n dX6_take_43 rfl ?_
  refine hv_bipush (v := 21) dX6_take_44 (by decide) ?_
  refine hv_iadd dX6_take_46 ?_
  refine hv_aload_n dX6_take_47 rfl ?_
  refine hv_getr dX6_take_48 fl_X6_21 (by first | rfl | assumption) rfl (by first | rfl | assumption) ?_
  refine hv_iconst (v := 0) dX6_take_51 (by decide) ?_
  refine hv_bipush (v := 7) dX6_take_52 (by decide) ?_
  refine hv_copy dX6_take_54 ml_X6_43 (by first | rfl | assumption) (by first | rfl | assumption) (n := 7) (nI_add p 21) rfl rfl (by omega) (by decide) (by decide) rfl rfl hacp ?_
  refine hv_aload_n dX6_take_57 rfl ?_
  refine hv_iload_n dX6_take_58 rfl ?_
  refine hv_bipush (v := 28) dX6_take_59 (by decide) ?_
  refine hv_iadd dX6_take_61 ?_
  refine hv_aload_n dX6_take_62 rfl ?_
  refine hv_getr dX6_take_63 fl_X6_24 (by first | rfl | assumption) rfl (by first | rfl | assumption) ?_
  refine hv_iconst (v := 0) dX6_take_66 (by decide) ?_
  refine hv_bipush (v := 7) dX6_take_67 (by decide) ?_
  refine hv_copy dX6_take_69 ml_X6_43 (by first | rfl | assumption) (by first | rfl | assumption) (n := 7) (nI_add p 28) rfl rfl (by omega) (by decide) (by decide) rfl rfl hacp ?_
  refine hv_aload_n dX6_take_72 rfl ?_
  refine hv_aload_n dX6_take_73 rfl ?_
  refine hv_iload_n dX6_take_74 rfl ?_
  refine hv_bipush (v := 38) dX6_take_75 (by decide) ?_
  refine hv_iadd dX6_take_77 ?_
  refine hv_iconst (v := 3) dX6_take_78 (by decide) ?_
  refine hv_isub dX6_take_79 ?_
  refine hv_iald dX6_take_80 (by first | rfl | assumption) (j := p + 35) (by rw [show (38 : Int32) = nI 38 from rfl, show (3 : Int32) = nI 3 from rfl, nI_add, pk_sub (by omega)]; rfl) (by omega) (by first | decide | assumption) ?_
  refine hv_puti dX6_take_81 fl_X6_33 (by first | rfl | assumption) rfl rfl rfl ?_
  refine hv_aload_n dX6_take_84 rfl ?_
  refine hv_aload_n dX6_take_85 rfl ?_
  refine hv_iload_n dX6_take_86 rfl ?_
  refine hv_bipush (v := 38) dX6_take_87 (by decide) ?_
  refine hv_iadd dX6_take_89 ?_
  refine hv_iconst (v := 2) dX6_take_90 (by decide) ?_
  refine hv_isub dX6_take_91 ?_
  refine hv_iald dX6_take_92 (by first | rfl | assumption) (j := p + 36) (by rw [show (38 : Int32) = nI 38 from rfl, show (2 : Int32) = nI 2 from rfl, nI_add, pk_sub (by omega)]; rfl) (by omega) (by first | decide | assumption) ?_
  refine hv_puti dX6_take_93 fl_X6_34 (by first | rfl | assumption) rfl rfl rfl ?_
  refine hv_aload_n dX6_take_96 rfl ?_
  refine hv_aload_n dX6_take_97 rfl ?_
  refine hv_iload_n dX6_take_98 rfl ?_
  refine hv_bipush (v := 38) dX6_take_99 (by decide) ?_
  refine hv_iadd dX6_take_101 ?_
  refine hv_iconst (v := 1) dX6_take_102 (by decide) ?_
  refine hv_isub dX6_take_103 ?_
  refine hv_iald dX6_take_104 (by first | rfl | assumption) (j := p + 37) (by rw [show (38 : Int32) = nI 38 from rfl, show (1 : Int32) = nI 1 from rfl, nI_add, pk_sub (by omega)]; rfl) (by omega) (by first | decide | assumption) ?_
  refine hv_puti dX6_take_105 fl_X6_40 (by first | rfl | assumption) rfl rfl rfl ?_
  refine hv_vret dX6_take_108 rfl ?_
  refine ⟨rfl, rfl, rfl, fun c hc => ?_, fun a ha => ?_, ?_, ?_, ?_⟩
  · simp only [List.mem_cons, List.not_mem_nil, or_false, not_or] at hc
    obtain ⟨e1, e2, e3, e4, e5, e6⟩ := hc
    simp only [va_up, e1, e2, e3, e4, e5, e6, if_false]
  · refine ⟨?_, ?_, ?_, ?_, ?_⟩ <;> simp [va_up, va_cpy, ha]
  · simp [va_up, upd]
  · simp [va_up, upd]
  · simp [va_up, upd]
theorem c_rowOf {o n : Nat} (ho : σ 17 3 = nI o) (ho40 : o < 40) (hn : n ≤ 40) : hCal G (m_X5_rowOf (hEq (some (.int (nI ((o + n) % 40)))) (rr 38 51 x y) σ τ)) [.ref (hgA G 17), .int (nI n)] shp (rr 38 51 x y) σ τ := by
  refine hv_enter pn_X5 rfl ?_
  refine hv_aload_n dX5_rowOf_0 rfl ?_
  refine hv_geti dX5_rowOf_1 fl_X5_34 (by first | rfl | assumption) rfl ?_
  refine hv_iload_n dX5_rowOf_4 rfl ?_
  refine hv_iadd dX5_rowOf_5 ?_
  refine hv_bipush (v := 40) dX5_rowOf_6 (by decide) ?_
  refine hv_irem dX5_rowOf_8 (by decide) ?_
  refine hv_iret dX5_rowOf_9 rfl ?_
  rw [ho, nI_add]
  exact ⟨congrArg (fun z => some (Value.int z)) (pk_rem (a := o + n) (d := 40) (by omega) (by decide) (by decide)).symm, rfl, rfl, rfl⟩
theorem c_keep {o n : Nat} (ho : σ 17 3 = nI o) (ho40 : o < 40) (hn : σ 17 4 = nI n) (hn40 : n ≤ 40) : hCal G (m_X5_keep (hQp [17, 18] none (rr 38 51 x y) σ τ (fun σ' => pRow (σ' 18) ((o + n) % 40 * 38) σ ∧ (∀ j, j < (o + n) % 40 * 38 ∨ (o + n) % 40 * 38 + 38 ≤ j → σ' 18 j = σ 18 j) ∧ (n < 40 → σ' 17 3 = nI o ∧ σ' 17 4 = nI (n + 1)) ∧ (n = 40 → σ' 17 3 = nI ((o + 1) % 40) ∧ σ' 17 4 = nI 40)))) [.ref (hgA G 17), .ref (hgA G 11)] shp (rr 38 51 x y) σ τ := by
  have hm : (o + n) % 40 < 40 := Nat.mod_lt _ (by decide)
  obtain ⟨rw40, hrw⟩ : ∃ rw40, (o + n) % 40 = rw40 := ⟨_, rfl⟩
  rw [hrw] at hm ⊢
  refine hv_enter pn_X5 rfl ?_
  refine hv_aload_n dX5_keep_0 rfl ?_
  refine hv_aload_n dX5_keep_1 rfl ?_
  refine hv_getr dX5_keep_2 fl_X5_11 (by first | rfl | assumption) rfl (by first | rfl | assumption) ?_
  refine hv_aload_n dX5_keep_5 rfl ?_
  refine hv_aload_n dX5_keep_6 rfl ?_
  refine hv_geti dX5_keep_7 fl_X5_22 (by first | rfl | assumption) rfl ?_
  rw [hn]
  refine hv_cv1 (c_rowOf ho ho40 hn40) dX5_keep_10 ml_X5_26 mk_X5_rowOf (by first | rfl | assumption) rfl rfl rfl rfl rfl ?_
  rintro _ _ _ _ ⟨rfl, rfl, rfl, rfl⟩
  rw [hrw]
  refine hv_bipush (v := 38) dX5_keep_13 (by decide) ?_
  refine hv_imul dX5_keep_15 ?_
  rw [show nI rw40 * 38 = nI (rw40 * 38) from pk_mul rw40 38]
  refine hv_cv2 (c_write_18 (p := rw40 * 38) (by omega)) dX5_keep_16 ml_X5_30 mk_X6_write (by first | rfl | assumption) rfl rfl rfl rfl rfl ?_
  rintro _ _ σ1 _ ⟨rfl, rfl, rfl, hq1, hq2, hq3⟩
  have e17 : σ1 17 = σ 17 := hq1 17 (by decide)
  refine hv_aload_n dX5_keep_19 rfl ?_
  refine hv_geti dX5_keep_20 fl_X5_22 (by first | rfl | assumption) rfl ?_
  refine hv_bipush (v := 40) dX5_keep_23 (by decide) ?_
  rw [e17, hn]
  refine hv_icmp_ge (tgt := 41) dX5_keep_25 (by decide) (fun c_25 => ?_) (fun c_25 => ?_)
  · have hge : 40 ≤ n := (nI_leI (a := 40) (by decide) (by omega)).mp c_25
    obtain rfl : n = 40 := by omega
    refine hv_aload_n dX5_keep_41 rfl ?_
    refine hv_aload_n dX5_keep_42 rfl ?_
    refine hv_iconst (v := 1) dX5_keep_43 (by decide) ?_
    refine hv_cv1 (c_rowOf (n := 1) (by rw [e17]; exact ho) ho40 (by decide)) dX5_keep_44 ml_X5_26 mk_X5_rowOf (by first | rfl | assumption) rfl rfl rfl rfl rfl ?_
    rintro _ _ _ _ ⟨rfl, rfl, rfl, rfl⟩
    refine hv_puti dX5_keep_47 fl_X5_34 (by first | rfl | assumption) rfl rfl rfl ?_
    refine hv_vret dX5_keep_50 rfl ?_
    first
      | refine ⟨rfl, rfl, rfl, off_up (fun k hk => hq1 k (fun qq => hk (by simp at qq ⊢; omega))) (by decide), ?_, ?_, ?_, ?_⟩
        · rw [hva_ne (by decide)]; exact hq2
        · rw [hva_ne (by decide)]; exact hq3
        · intro _
          rw [hup_eq, pk_un (by decide), pk_us, e17]
          exact ⟨ho, rfl⟩
        · intro hn2
          exact absurd hlt (by omega)
      | refine ⟨rfl, rfl, rfl, off_up (fun k hk => hq1 k (fun qq => hk (by simp at qq ⊢; omega))) (by decide), ?_, ?_, ?_, ?_⟩
        · rw [hva_ne (by decide)]; exact hq2
        · rw [hva_ne (by decide)]; exact hq3
        · intro hn2
          exact absurd hn2 (by omega)
        · intro _
          rw [hup_eq, pk_us, pk_un (by decide), e17]
          exact ⟨rfl, hn⟩
  · have hlt : n < 40 := Nat.not_le.mp fun qq => c_25 (nI_le (a := 40) qq (by omega))
    refine hv_aload_n dX5_keep_28 rfl ?_
    refine hv_dup dX5_keep_29 rfl ?_
    refine hv_geti dX5_keep_30 fl_X5_22 (by first | rfl | assumption) rfl ?_
    rw [e17, hn]
    refine hv_iconst (v := 1) dX5_keep_33 (by decide) ?_
    refine hv_iadd dX5_keep_34 ?_
    rw [nI_1]
    refine hv_puti dX5_keep_35 fl_X5_22 (by first | rfl | assumption) rfl rfl rfl ?_
    refine hv_goto (tgt := 50) dX5_keep_38 (by decide) ?_
    refine hv_vret dX5_keep_50 rfl ?_
    first
      | refine ⟨rfl, rfl, rfl, off_up (fun k hk => hq1 k (fun qq => hk (by simp at qq ⊢; omega))) (by decide), ?_, ?_, ?_, ?_⟩
        · rw [hva_ne (by decide)]; exact hq2
        · rw [hva_ne (by decide)]; exact hq3
        · intro _
          rw [hup_eq, pk_un (by decide), pk_us, e17]
          exact ⟨ho, rfl⟩
        · intro hn2
          exact absurd hlt (by omega)
      | refine ⟨rfl, rfl, rfl, off_up (fun k hk => hq1 k (fun qq => hk (by simp at qq ⊢; omega))) (by decide), ?_, ?_, ?_, ?_⟩
        · rw [hva_ne (by decide)]; exact hq2
        · rw [hva_ne (by decide)]; exact hq3
        · intro hn2
          exact absurd hn2 (by omega)
        · intro _
          rw [hup_eq, pk_us, pk_un (by decide), e17]
          exact ⟨rfl, hn⟩
theorem c_bringBack0 (hn : σ 17 4 = nI 0) : hCal G (m_X5_bringBack (hEq (some (.int 0)) (rr 38 51 x y) σ τ)) [.ref (hgA G 17), .ref (hgA G 11)] shp (rr 38 51 x y) σ τ := by
  refine hv_enter pn_X5 rfl ?_
  refine hv_aload_n dX5_bringBack_0 rfl ?_
  refine hv_geti dX5_bringBack_1 fl_X5_22 (by first | rfl | assumption) rfl ?_
  refine hv_iconst (v := 1) dX5_bringBack_4 (by decide) ?_
  refine hv_icmp_ge (tgt := 10) dX5_bringBack_5 (by decide) (fun c_5 => absurd c_5 ((by rw [hn]; decide))) (fun c_5 => ?_)
  refine hv_iconst (v := 0) dX5_bringBack_8 (by decide) ?_
  refine hv_zret dX5_bringBack_9 rfl (by first | exact Or.inl rfl | exact Or.inr rfl | assumption) ?_
  exact ⟨rfl, rfl, rfl, rfl⟩
theorem c_bringBack {o n : Nat} (ho : σ 17 3 = nI o) (ho40 : o < 40) (hn : σ 17 4 = nI (n + 1)) (hn40 : n < 40) : hCal G (m_X5_bringBack (hQp [11, 12, 13, 14, 15, 16, 17] (some (.int 1)) (rr 38 51 x y) σ τ (fun σ' => pRow (σ 18) ((o + n) % 40 * 38) σ' ∧ σ' 17 3 = nI o ∧ σ' 17 4 = nI n))) [.ref (hgA G 17), .ref (hgA G 11)] shp (rr 38 51 x y) σ τ := by
  have hm : (o + n) % 40 < 40 := Nat.mod_lt _ (by decide)
  obtain ⟨rw40, hrw⟩ : ∃ rw40, (o + n) % 40 = rw40 := ⟨_, rfl⟩
  rw [hrw] at hm ⊢
  refine hv_enter pn_X5 rfl ?_
  refine hv_aload_n dX5_bringBack_0 rfl ?_
  refine hv_geti dX5_bringBack_1 fl_X5_22 (by first | rfl | assumption) rfl ?_
  refine hv_iconst (v := 1) dX5_bringBack_4 (by decide) ?_
  refine hv_icmp_ge (tgt := 10) dX5_bringBack_5 (by decide) (fun c_5 => ?_) (fun c_5 => absurd ((by rw [hn]; exact nI_le (a := 1) (by omega) (by omega))) c_5)
  refine hv_aload_n dX5_bringBack_10 rfl ?_
  refine hv_dup dX5_bringBack_11 rfl ?_
  refine hv_geti dX5_bringBack_12 fl_X5_22 (by first | rfl | assumption) rfl ?_
  rw [hn]
  refine hv_iconst (v := 1) dX5_bringBack_15 (by decide) ?_
  refine hv_isub dX5_bringBack_16 ?_
  rw [nI_pred]
  refine hv_puti dX5_bringBack_17 fl_X5_22 (by first | rfl | assumption) rfl rfl rfl ?_
  refine hv_aload_n dX5_bringBack_20 rfl ?_
  refine hv_aload_n dX5_bringBack_21 rfl ?_
  refine hv_getr dX5_bringBack_22 fl_X5_11 (by first | rfl | assumption) rfl (by first | rfl | assumption) ?_
  refine hv_aload_n dX5_bringBack_25 rfl ?_
  refine hv_aload_n dX5_bringBack_26 rfl ?_
  refine hv_geti dX5_bringBack_27 fl_X5_22 (by first | rfl | assumption) rfl ?_
  refine hv_str (st' := .int (nI n) :: [.ref (hgA G 17), .ref (hgA G 18), .ref (hgA G 11)]) (by rw [hup_eq, pk_us]) ?_
  refine hv_cv1 (c_rowOf (o := o) (n := n) (by rw [hup_eq, pk_un (by decide)]; exact ho) ho40 (by omega)) dX5_bringBack_30 ml_X5_26 mk_X5_rowOf (by first | rfl | assumption) rfl rfl rfl rfl rfl ?_
  rintro _ _ _ _ ⟨rfl, rfl, rfl, rfl⟩
  rw [hrw]
  refine hv_bipush (v := 38) dX5_bringBack_33 (by decide) ?_
  refine hv_imul dX5_bringBack_35 ?_
  rw [show nI rw40 * 38 = nI (rw40 * 38) from pk_mul rw40 38]
  refine hv_cv2 (c_take_18 (p := rw40 * 38) (by omega)) dX5_bringBack_36 ml_X5_37 mk_X6_take (by first | rfl | assumption) rfl rfl rfl rfl rfl ?_
  rintro _ _ σ1 _ ⟨rfl, rfl, rfl, hq1, hq2⟩
  refine hv_iconst (v := 1) dX5_bringBack_39 (by decide) ?_
  refine hv_zret dX5_bringBack_40 rfl (by first | exact Or.inl rfl | exact Or.inr rfl | assumption) ?_
  refine ⟨rfl, rfl, rfl, fun k hk => ?_, ?_, ?_, ?_⟩
  · simp only [List.mem_cons, List.not_mem_nil, or_false, not_or] at hk
    rw [hq1 k (by simp; omega), hva_ne hk.2.2.2.2.2.2]
  · rw [hva_ne (by decide)] at hq2; exact hq2
  · rw [hq1 17 (by decide), hup_eq, pk_un (by decide)]; exact ho
  · rw [hq1 17 (by decide), hup_eq, pk_us]
end S19

