abbrev m_X4_parseLaw (Q : hPo) : hMe := (hrm 31, 0, 0, yX4_parseLaw, cX4_parseLaw, 4, (none : Option FieldType), shp, none, Q)
theorem bd_inr {α β : Type} (a : Nat) (c : α) (g : Nat → α → hPR β) : bd (Sum.inr (a, c)) g = g a c := rfl
theorem bd_inl {α β : Type} (e : Nat × Nat) (g : Nat → α → hPR β) : bd (Sum.inl e) g = Sum.inl e := rfl
theorem bd_iff {α β : Type} {r : hPR α} {g : Nat → α → hPR β} {a : Nat} {b : β} : bd r g = Sum.inr (a, b) ↔ ∃ a' c, r = Sum.inr (a', c) ∧ g a' c = Sum.inr (a, b) := by
  constructor
  · intro h
    rcases r with e | ⟨a', c⟩
    · cases h
    · exact ⟨a', c, rfl, h⟩
  · rintro ⟨a', c, rfl, h⟩; exact h
/-- a branch, as the class has it from step p on -/
def encB (p : Nat) (b : hBr) : hCd := b.1 ++ b.2.1 ++ [(6, nI (p + (b.1.length + b.2.1.length + 1 + b.2.2.length + 1)))] ++ b.2.2 ++ [(7, 0)]
theorem encB_len (p : Nat) (b : hBr) : (encB p b).length = b.1.length + b.2.1.length + 1 + b.2.2.length + 1 := by
  unfold encB
  simp only [List.length_append, List.length_singleton]
def encBs (p : Nat) : List hBr → hCd
  | [] => []
  | b :: bs => encB p b ++ encBs (p + (encB p b).length) bs
def encL (p : Nat) (l : hLw) : hCd := encBs p l.1 ++ l.2 ++ [(7, 0)]
theorem encBs_app (p : Nat) : ∀ (bs : List hBr) (b : hBr), encBs p (bs ++ [b]) = encBs p bs ++ encB (p + (encBs p bs).length) b
  | [], b => by simp [encBs]
  | a :: bs, b => by
    show encB p a ++ encBs (p + (encB p a).length) (bs ++ [b]) = (encB p a ++ encBs (p + (encB p a).length) bs) ++ encB (p + (encB p a ++ encBs (p + (encB p a).length) bs).length) b
    rw [encBs_app (p + (encB p a).length) bs b, List.append_assoc, List.length_append, Nat.add_assoc]
theorem cdAt_set {st op : hF} {p : Nat} {A B : hCd} {k o o' : Int32} (h : cdAt st op p (A ++ [(k, o)] ++ B)) : cdAt st (upd op (p + A.length) o') p (A ++ [(k, o')] ++ B) := by
  rw [cdAt_app, cdAt_app] at h ⊢
  obtain ⟨⟨h1, h2, h3, -⟩, h4⟩ := h
  refine ⟨⟨cdAt_ext A p (p + A.length) (Nat.le_refl _) (fun _ _ => rfl) (fun j hj => pk_un (by omega)) h1, h2, pk_us, trivial⟩, ?_⟩
  have hl : (A ++ [(k, o')]).length = (A ++ [(k, o)]).length := by simp
  rw [hl]
  have hgo : ∀ (c : hCd) (q : Nat), p + A.length < q → cdAt st op q c → cdAt st (upd op (p + A.length) o') q c := by
    intro c
    induction c with
    | nil => intro q _ _; trivial
    | cons x c ih =>
      obtain ⟨k1, o1⟩ := x
      intro q hq hc
      exact ⟨hc.1, by rw [pk_un (by omega)]; exact hc.2.1, ih (q + 1) (by omega) hc.2.2⟩
  exact hgo B _ (by simp) h4
/-- as pEx, with so many steps to spare -/
def pEy (f : hF) (n sl sz : Nat) (r : hPR hCd) (σ σ' : hS) : Prop := pSt f n (stR r) σ' ∧ match r with
  | .inl _ => pLg σ σ'
  | .inr (a, c) => pLw sz c σ σ' ∧ sz + c.length + sl ≤ 10 + a
theorem ey_of {f : hF} {n sz : Nat} {s : hPR Unit} {σ : hS} (hs : pSt f n s σ) (hz : szOk sz s σ) : pEy f n 0 sz (bd s (fun a _ => .inr (a, []))) σ σ := by
  rcases s with e | ⟨a, u⟩
  · exact ⟨hs, fun _ _ => rfl, sz, hz.2.1, hz.1⟩
  · exact ⟨by cases u; exact hs, pLw_0 hz.1 rfl rfl rfl, hz.2.2 a u rfl⟩
theorem stR_st (s : hPR Unit) : stR (bd s (fun a _ => (Sum.inr (a, []) : hPR hCd))) = s := by
  rcases s with e | ⟨a, u⟩
  · rfl
  · cases u; rfl
theorem ey_tk {f : hF} {n sl sz : Nat} {r : hPR hCd} {t : Nat → hPR Unit} {σ σ1 σ2 : hS} (ht : ∀ a b u, t a = .inr (b, u) → b = a + 1) (h : pEy f n sl sz r σ σ1) (hσ : ∀ c, c ∉ [7] → σ2 c = σ1 c) (hs : pSt f n (bd (stR r) (fun a _ => t a)) σ2) : pEy f n (sl + 1) sz (bd r (fun a c => bd (t a) (fun a' _ => .inr (a', c)))) σ σ2 := by
  rcases r with e | ⟨a, c⟩
  · exact ⟨hs, pLg_of h.2 (hσ 58 (by decide))⟩
  · have hs' : pSt f n (t a) σ2 := hs
    show pEy f n (sl + 1) sz (bd (t a) (fun a' _ => .inr (a', c))) σ σ2
    have ha := h.1.2.2.2.1
    rcases hr : t a with e | ⟨b, u⟩
    · rw [hr] at hs'
      exact ⟨hs', pLg_of (pLw_lg h.2.1 (by have := h.2.2; omega)) (hσ 58 (by decide))⟩
    · rw [hr] at hs'
      have hb := ht a b u hr
      exact ⟨by cases u; exact hs', pLw_of h.2.1 (hσ 58 (by decide)) (hσ 59 (by decide)) (hσ 60 (by decide)), by have := h.2.2; omega⟩
theorem ey_sz {f : hF} {n sl sz : Nat} {r : hPR hCd} {σ σ1 : hS} (h : pEy f n sl sz r σ σ1) : ∃ z, szOk z (stR r) σ1 ∧ ∀ a c, r = .inr (a, c) → z = sz + c.length := by
  rcases r with e | ⟨a, c⟩
  · obtain ⟨z, h1, h2⟩ := h.2.2
    exact ⟨z, ⟨h2, h1, fun _ _ q => nomatch q⟩, fun _ _ q => nomatch q⟩
  · have ha := h.1.2.2.2.1
    exact ⟨sz + c.length, ⟨h.2.1.2.1, by have := h.2.2; omega, fun b u q => by cases q; have := h.2.2; omega⟩, fun b d q => by cases q; rfl⟩
theorem ey_exp {f : hF} {n sl sz z : Nat} {r : hPR hCd} {σ σ1 σ2 : hS} (h : pEy f n sl sz r σ σ1) (hz : ∀ a c, r = .inr (a, c) → z = sz + c.length) (h2 : pEx f n z (bd (stR r) (fun a _ => eX (kd f n) (vl f n) a)) σ1 σ2) : pEy f n sl sz (bd r (fun a c => bd (eX (kd f n) (vl f n) a) (fun a' c' => .inr (a', c ++ c')))) σ σ2 := by
  rcases r with e | ⟨a, c⟩
  · exact ⟨h2.1, pLg_tr h.2.1 h2.2⟩
  · have hzz := hz a c rfl
    subst hzz
    have ha := h.1.2.2.2.1
    have ho := eX_ok (kd f n) (vl f n) a ha
    have h3 : pEx f n (sz + c.length) (eX (kd f n) (vl f n) a) σ1 σ2 := h2
    show pEy f n sl sz (bd (eX (kd f n) (vl f n) a) (fun a' c' => .inr (a', c ++ c'))) σ σ2
    rcases hr : eX (kd f n) (vl f n) a with e | ⟨b, d⟩
    · rw [hr] at h3
      exact ⟨h3.1, pLg_tr h.2.1.1 h3.2⟩
    · rw [hr] at h3 ho
      have hl := ho.2.2.2.1.2.2.1
      have h5 := ho.1
      exact ⟨h3.1, pLw_tr h.2.1 h3.2.1, by rw [List.length_append]; have := h.2.2; omega⟩
theorem ey_put {f : hF} {n sl sz z : Nat} {r : hPR hCd} {k o : Int32} {σ σ1 σ2 : hS} (h : pEy f n (sl + 1) sz r σ σ1) (hz : szOk z (stR r) σ1) (hz2 : ∀ a c, r = .inr (a, c) → z = sz + c.length) (hσ : ∀ k, k ∉ [58, 59, 60] → σ2 k = σ1 k) (hp : pPut z k o σ1 σ2) : pEy f n sl sz (bd r (fun a c => .inr (a, c ++ [(k, o)]))) σ σ2 := by
  rcases r with e | ⟨a, c⟩
  · exact ⟨pSt_of h.1 (hσ 7 (by decide)), pLg_tr h.2.1 (pLg_p hz.1 hz.2.1 hp)⟩
  · have hzz := hz2 a c rfl
    subst hzz
    have ha := h.1.2.2.2.1
    have h4 := h.2.2
    exact ⟨pSt_of h.1 (hσ 7 (by decide)), pLw_tr h.2.1 (pLw_p1 (by omega) hp), by rw [List.length_append, List.length_singleton]; omega⟩
section S77
variable {G : hGl} {σ : hS} {τ : hT} {x y : Option Nat}
theorem c_leadHere {z p : Nat} (h5 : σ 58 5 = nI z) (hz : z ≤ 410) (hp : p < 410) : hCal G (m_X1_leadHere (hQp [60] none (rr 38 51 x y) σ τ (fun σ' => σ' 60 = if p < z then upd (σ 60) p (nI z) else σ 60))) [.ref (hgA G 58), .int (nI p)] shp (rr 38 51 x y) σ τ := by
  refine hv_enter pn_X1 rfl ?_
  refine hv_iload_n dX1_leadHere_0 rfl ?_
  refine hv_if_lt (tgt := 22) dX1_leadHere_1 (by decide) (fun c_1 => absurd c_1 ((nI_pos (by omega)))) (fun c_1 => ?_)
  refine hv_iload_n dX1_leadHere_4 rfl ?_
  refine hv_aload_n dX1_leadHere_5 rfl ?_
  refine hv_geti dX1_leadHere_6 fl_X1_27 (by first | rfl | assumption) rfl ?_
  rw [h5]
  refine hv_icmp_ge (tgt := 22) dX1_leadHere_9 (by decide) (fun c_9 => ?_) (fun c_9 => ?_)
  · have hpz : ¬ p < z := fun q => nI_ge q (by omega) c_9
    refine hv_vret dX1_leadHere_22 rfl ?_
    first
      | (rw [if_neg hpz]; exact ⟨rfl, rfl, rfl, fun _ _ => rfl, rfl⟩)
      | (rw [if_pos hpz]; exact ⟨rfl, rfl, rfl, off_up (fun _ _ => rfl) (by decide), hup_eq⟩)
  · have hpz : p < z := (nI_ltI (by omega) (by omega)).mp (Int32.not_le.mp c_9)
    refine hv_aload_n dX1_leadHere_12 rfl ?_
    refine hv_getr dX1_leadHere_13 fl_X1_15 (by first | rfl | assumption) rfl (by first | rfl | assumption) ?_
    refine hv_iload_n dX1_leadHere_16 rfl ?_
    refine hv_aload_n dX1_leadHere_17 rfl ?_
    refine hv_geti dX1_leadHere_18 fl_X1_27 (by first | rfl | assumption) rfl ?_
    rw [h5]
    refine hv_iast dX1_leadHere_21 (by first | rfl | assumption) rfl (by first | assumption | omega) (by first | decide | assumption) ?_
    refine hv_vret dX1_leadHere_22 rfl ?_
    first
      | (rw [if_neg hpz]; exact ⟨rfl, rfl, rfl, fun _ _ => rfl, rfl⟩)
      | (rw [if_pos hpz]; exact ⟨rfl, rfl, rfl, off_up (fun _ _ => rfl) (by decide), hup_eq⟩)
theorem c_startHere {z k : Nat} (h5 : σ 58 5 = nI z) (hk : k < 5) : hCal G (m_X1_startHere (hQp [61] none (rr 38 51 x y) σ τ (fun σ' => σ' 61 = upd (σ 61) k (nI z)))) [.ref (hgA G 58), .int (nI k)] shp (rr 38 51 x y) σ τ := by
  refine hv_enter pn_X1 rfl ?_
  refine hv_iload_n dX1_startHere_0 rfl ?_
  refine hv_if_lt (tgt := 19) dX1_startHere_1 (by decide) (fun c_1 => absurd c_1 ((nI_pos (by omega)))) (fun c_1 => ?_)
  refine hv_iload_n dX1_startHere_4 rfl ?_
  refine hv_iconst (v := 5) dX1_startHere_5 (by decide) ?_
  refine hv_icmp_ge (tgt := 19) dX1_startHere_6 (by decide) (fun c_6 => absurd c_6 ((nI_ge (b := 5) hk (by decide)))) (fun c_6 => ?_)
  refine hv_aload_n dX1_startHere_9 rfl ?_
  refine hv_getr dX1_startHere_10 fl_X1_18 (by first | rfl | assumption) rfl (by first | rfl | assumption) ?_
  refine hv_iload_n dX1_startHere_13 rfl ?_
  refine hv_aload_n dX1_startHere_14 rfl ?_
  refine hv_geti dX1_startHere_15 fl_X1_27 (by first | rfl | assumption) rfl ?_
  rw [h5]
  refine hv_iast dX1_startHere_18 (by first | rfl | assumption) rfl (by first | assumption | omega) (by first | decide | assumption) ?_
  refine hv_vret dX1_startHere_19 rfl ?_
  exact ⟨rfl, rfl, rfl, off_up (fun _ _ => rfl) (by decide), hup_eq⟩
/-- a fault is told: the parser stands there -/
theorem st_fail {f : hF} {n a v : Nat} {u : Unit} (hv : v = 1 ∨ v = 2) (hs : pSt f n (.inr (a, u)) σ) : pSt f n (.inl (v, a)) (va_up σ 7 (upd (σ 7) 7 (if σ 7 7 = 0 then nI v else σ 7 7))) := by
  obtain ⟨h1, h2, h3, h4⟩ := hs
  rw [if_pos h1]
  exact ⟨by rw [hup_eq, pk_us], hv, by rw [hup_eq, pk_un (by decide)]; exact h2, h4⟩
def srt (b : Bool) (a : Nat) : hPR Unit := if b = true then pass a else .inl (2, a)
theorem c_takeSort {f : hF} {n told most : Nat} {s : hPR Unit} (ht : tokC f n σ) (hs : pSt f n s σ) (hk : ∀ a u, s = .inr (a, u) → kd f n a ≠ 25 ∧ kd f n a ≠ 26) (hm1 : told < 1000) (hm2 : most < 1000) : hCal G (m_X4_takeSort (hQp [7] none (rr 38 51 x y) σ τ (fun σ' => k7 σ σ' ∧ pSt f n (bd s (fun a _ => srt (decide (told < most)) a)) σ'))) [.ref (hgA G 7), .int (nI told), .int (nI most)] shp (rr 38 51 x y) σ τ := by
  refine hv_enter pn_X4 rfl ?_
  by_cases c : told < most
  · rw [decide_eq_true c]
    refine hv_iload_n dX4_takeSort_0 rfl ?_
    refine hv_iload_n dX4_takeSort_1 rfl ?_
    refine hv_icmp_lt (tgt := 10) dX4_takeSort_2 (by decide) (fun c_2 => ?_) (fun c_2 => absurd ((nI_lt c (by omega))) c_2)
    refine hv_aload_n dX4_takeSort_10 rfl ?_
    refine hv_aload_n dX4_takeSort_11 rfl ?_
    refine hv_geti dX4_takeSort_12 fl_X4_29 (by first | rfl | assumption) rfl ?_
    refine hv_cv1 (c_pass ht hs hk) dX4_takeSort_15 ml_X4_63 mk_X4_take (by first | rfl | assumption) rfl rfl rfl rfl rfl ?_
    rintro _ _ σ1 _ ⟨rfl, rfl, rfl, a1, a2, a3⟩
    refine hv_vret dX4_takeSort_18 rfl ?_
    exact ⟨rfl, rfl, rfl, a1, a2, a3⟩
  · rw [decide_eq_false c]
    have h2 : pSt f n (bd s (fun a _ => srt false a)) (va_up σ 7 (upd (σ 7) 7 (if σ 7 7 = 0 then 2 else σ 7 7))) := by
      rcases s with ⟨v, t⟩ | ⟨a, u⟩
      · have hne : ¬ σ 7 7 = 0 := by rw [hs.1]; exact nI_ne0 (by have := hs.2.1; omega) (by have := hs.2.1; omega)
        refine pSt_of hs ?_
        rw [hup_eq, if_neg hne, upd_self rfl]
      · exact st_fail (v := 2) (Or.inr rfl) hs
    refine hv_iload_n dX4_takeSort_0 rfl ?_
    refine hv_iload_n dX4_takeSort_1 rfl ?_
    refine hv_icmp_lt (tgt := 10) dX4_takeSort_2 (by decide) (fun c_2 => absurd c_2 ((nI_nlt (by omega) (by omega)))) (fun c_2 => ?_)
    refine hv_aload_n dX4_takeSort_5 rfl ?_
    refine hv_iconst (v := 2) dX4_takeSort_6 (by decide) ?_
    refine hv_cv1 (c_pfail) dX4_takeSort_7 ml_X4_60 mk_X4_fail (by first | rfl | assumption) rfl rfl rfl rfl rfl ?_
    rintro _ _ _ _ ⟨rfl, rfl, rfl, rfl⟩
    refine hv_aload_n dX4_takeSort_10 rfl ?_
    refine hv_aload_n dX4_takeSort_11 rfl ?_
    refine hv_geti dX4_takeSort_12 fl_X4_29 (by first | rfl | assumption) rfl ?_
    refine hv_cv1 (c_pass (tokC_of ht (off_up (fun _ _ => rfl) (show [7].contains 7 = true by decide)) rfl) h2 (fun a u q => by rcases s with e | ⟨b, w⟩ <;> cases q)) dX4_takeSort_15 ml_X4_63 mk_X4_take (by first | rfl | assumption) rfl rfl rfl rfl rfl ?_
    rintro _ _ σ1 _ ⟨rfl, rfl, rfl, a1, a2, a3⟩
    refine hv_vret dX4_takeSort_18 rfl ?_
    refine ⟨rfl, rfl, rfl, off_tr (off_up (X := [7]) (fun _ _ => rfl) (by decide)) a1 (by decide) (by decide), k7_tr (fun j j1 j2 j3 => by rw [hup_eq, pk_un j3]) a2, ?_⟩
    rw [show bd s (fun a _ => srt false a) = bd (bd s (fun a _ => srt false a)) (fun a _ => pass a) by rcases s with e | ⟨b, w⟩ <;> rfl]
    exact a3
set_option maxRecDepth 100000 in
/-- one IF, behind its word -/
theorem v_if {f : hF} {n sz : Nat} {s : hPR Unit} {i k : Int32} {l3 : Option Value} {Q : hPo} {σ1 : hS} (hl3 : l3 = none ∨ ∃ z, l3 = some (.int z)) (t1 : tokC f n σ1) (e1 : pEy f n (0 + 1) sz (bd (bd s (fun a _ => (Sum.inr (a, []) : hPR hCd))) (fun a c => bd (pass a) (fun a' _ => (Sum.inr (a', c) : hPR hCd)))) σ σ1) (kk : ∀ (σ' : hS) (z : Int32), (∀ c, c ∉ xEx → σ' c = σ1 c) → k7 σ1 σ' → pEy f n 0 sz (bd s (fun a _ => bd (ifX (kd f n) (vl f n) a) (fun a' b => .inr (a', encB sz b)))) σ σ' → hV G (m_X4_parseLaw Q) 0 0 shp 114 [some (.ref (hgA G 7)), some (.int k), some (.int i), some (.int z)] [] (rr 38 51 (some 58) y) σ' τ) : hV G (m_X4_parseLaw Q) 0 0 shp 51 [some (.ref (hgA G 7)), some (.int k), some (.int i), l3] [] (rr 38 51 (some 58) y) σ1 τ := by
  obtain ⟨z1, s1, g1⟩ := ey_sz e1
  refine hv_aload_n dX4_parseLaw_51 rfl ?_
  refine hv_iconst (v := 0) dX4_parseLaw_52 (by decide) ?_
  refine hv_cv1 (c_parseSum_0 t1 e1.1 s1) dX4_parseLaw_53 ml_X4_77 mk_X4_parseSum (by first | rfl | assumption) rfl rfl rfl rfl rfl ?_
  rintro _ _ σ2 _ ⟨rfl, rfl, rfl, b1, b2, b3⟩
  have e2 := ey_exp e1 g1 b3
  have t2 := tokC_of t1 b1 rfl
  refine hv_aload_n dX4_parseLaw_56 rfl ?_
  refine hv_bipush (v := 33) dX4_parseLaw_57 (by decide) ?_
  refine hv_cv1 (c_take (k := 33) t2 e2.1 (by decide) (by decide)) dX4_parseLaw_59 ml_X4_63 mk_X4_take (by first | rfl | assumption) rfl rfl rfl rfl rfl ?_
  rintro _ _ σ3 _ ⟨rfl, rfl, rfl, d1, d2, d3⟩
  have e3 := ey_tk (t := tk (kd f n) 33) (fun a b u q => (tk_r q).2.2) e2 d1 d3
  have t3 := tokC_of t2 d1 rfl
  obtain ⟨z3, s3, g3⟩ := ey_sz e3
  refine hv_aload_n dX4_parseLaw_62 rfl ?_
  refine hv_iconst (v := 0) dX4_parseLaw_63 (by decide) ?_
  refine hv_cv1 (c_parseSum_0 t3 e3.1 s3) dX4_parseLaw_64 ml_X4_77 mk_X4_parseSum (by first | rfl | assumption) rfl rfl rfl rfl rfl ?_
  rintro _ _ σ4 _ ⟨rfl, rfl, rfl, h1, h2, h3⟩
  have e4 := ey_exp e3 g3 h3
  have t4 := tokC_of t3 h1 rfl
  refine hv_aload_n dX4_parseLaw_67 rfl ?_
  refine hv_bipush (v := 12) dX4_parseLaw_68 (by decide) ?_
  refine hv_cv1 (c_take (k := 12) t4 e4.1 (by decide) (by decide)) dX4_parseLaw_70 ml_X4_63 mk_X4_take (by first | rfl | assumption) rfl rfl rfl rfl rfl ?_
  rintro _ _ σ5 _ ⟨rfl, rfl, rfl, i1, i2, i3⟩
  have e5 := ey_tk (t := tk (kd f n) 12) (fun a b u q => (tk_r q).2.2) e4 i1 i3
  have t5 := tokC_of t4 i1 rfl
  obtain ⟨z5, s5, g5⟩ := ey_sz e5
  refine hv_aload_n dX4_parseLaw_73 rfl ?_
  refine hv_getr dX4_parseLaw_74 fl_X4_15 (by first | rfl | assumption) rfl (by first | rfl | assumption) ?_
  refine hv_bipush (v := 6) dX4_parseLaw_77 (by decide) ?_
  refine hv_iconst (v := 0) dX4_parseLaw_79 (by decide) ?_
  refine hv_cv2 (c_lput s5.1 s5.2.1) dX4_parseLaw_80 ml_X4_80 mk_X1_put (by first | rfl | assumption) rfl rfl rfl rfl rfl ?_
  rintro _ _ σ6 _ ⟨rfl, rfl, rfl, j1, j2⟩
  obtain ⟨pl, hpl⟩ : ∃ pl, (if z5 < 410 then nI z5 else nI 409) = nI pl ∧ pl < 410 ∧ (z5 < 410 → pl = z5) := by
    by_cases cz : z5 < 410
    · exact ⟨z5, if_pos cz, cz, fun _ => rfl⟩
    · exact ⟨409, if_neg cz, by decide, fun q => absurd q cz⟩
  rw [hpl.1]
  have e6 := ey_put e5 s5 g5 j1 j2
  have t6 := tokC_of t5 j1 rfl
  obtain ⟨z6, s6, g6⟩ := ey_sz e6
  refine hv_istore_n dX4_parseLaw_83 rfl (by rcases hl3 with rfl | ⟨z, rfl⟩ <;> rfl) ?_
  refine hv_aload_n dX4_parseLaw_84 rfl ?_
  refine hv_iconst (v := 0) dX4_parseLaw_85 (by decide) ?_
  refine hv_cv1 (c_parseSum_0 t6 e6.1 s6) dX4_parseLaw_86 ml_X4_77 mk_X4_parseSum (by first | rfl | assumption) rfl rfl rfl rfl rfl ?_
  rintro _ _ σ7 _ ⟨rfl, rfl, rfl, k1, k2, k3⟩
  have e7 := ey_exp e6 g6 k3
  have t7 := tokC_of t6 k1 rfl
  refine hv_aload_n dX4_parseLaw_89 rfl ?_
  refine hv_bipush (v := 13) dX4_parseLaw_90 (by decide) ?_
  refine hv_cv1 (c_take (k := 13) t7 e7.1 (by decide) (by decide)) dX4_parseLaw_92 ml_X4_63 mk_X4_take (by first | rfl | assumption) rfl rfl rfl rfl rfl ?_
  rintro _ _ σ8 _ ⟨rfl, rfl, rfl, l1, l2, l3⟩
  have e8 := ey_tk (t := tk (kd f n) 13) (fun a b u q => (tk_r q).2.2) e7 l1 l3
  obtain ⟨z8, s8, g8⟩ := ey_sz e8
  refine hv_aload_n dX4_parseLaw_95 rfl ?_
  refine hv_getr dX4_parseLaw_96 fl_X4_15 (by first | rfl | assumption) rfl (by first | rfl | assumption) ?_
  refine hv_bipush (v := 7) dX4_parseLaw_99 (by decide) ?_
  refine hv_iconst (v := 0) dX4_parseLaw_101 (by decide) ?_
  refine hv_cv2 (c_lput s8.1 s8.2.1) dX4_parseLaw_102 ml_X4_80 mk_X1_put (by first | rfl | assumption) rfl rfl rfl rfl rfl ?_
  rintro _ _ σ9 _ ⟨rfl, rfl, rfl, m1, m2⟩
  have e9 := ey_put e8 s8 g8 m1 m2
  obtain ⟨z9, s9, g9⟩ := ey_sz e9
  refine hv_pop dX4_parseLaw_105 rfl ?_
  refine hv_aload_n dX4_parseLaw_106 rfl ?_
  refine hv_getr dX4_parseLaw_107 fl_X4_15 (by first | rfl | assumption) rfl (by first | rfl | assumption) ?_
  refine hv_iload_n dX4_parseLaw_110 rfl ?_
  refine hv_cv1 (c_leadHere s9.1 s9.2.1 hpl.2.1) dX4_parseLaw_111 ml_X4_84 mk_X1_leadHere (by first | rfl | assumption) rfl rfl rfl rfl rfl ?_
  rintro _ _ σ10 _ ⟨rfl, rfl, rfl, n1, n2⟩
  refine kk σ10 _ (off_tr (off_tr (off_tr (off_tr (off_tr (off_tr (off_tr (off_tr b1 d1 (Z := xEx) (by decide) (by decide)) h1 (Z := xEx) (by decide) (by decide)) i1 (Z := xEx) (by decide) (by decide)) j1 (Z := xEx) (by decide) (by decide)) k1 (Z := xEx) (by decide) (by decide)) l1 (Z := xEx) (by decide) (by decide)) m1 (Z := xEx) (by decide) (by decide)) n1 (by decide) (by decide)) ?_ ?_
  · intro q q1 q2 q3
    rw [n1 7 (by decide), m1 7 (by decide), l2 q q1 q2 q3, k2 q q1 q2 q3, j1 7 (by decide), i2 q q1 q2 q3, h2 q q1 q2 q3, d2 q q1 q2 q3, b2 q q1 q2 q3]
  · obtain ⟨R, hR⟩ : ∃ R, bd s (fun a _ => ifX (kd f n) (vl f n) a) = R := ⟨_, rfl⟩
    have e10 : pEy f n 2 sz (bd R (fun a b => .inr (a, b.1 ++ b.2.1 ++ [(6, 0)] ++ b.2.2 ++ [(7, 0)]))) σ σ9 ∧ ∀ a b, R = .inr (a, b) → z5 = sz + (b.1.length + b.2.1.length) ∧ z9 = sz + (b.1.length + b.2.1.length + 1 + b.2.2.length + 1) := by
      subst hR
      unfold ifX
      simp only [bd_assoc, bd_inr, List.nil_append] at e9 g5 g9 ⊢
      refine ⟨e9, fun a b hab => ?_⟩
      obtain ⟨w0, u0, q0, hab⟩ := bd_iff.mp hab
      obtain ⟨w1, u1, q1, hab⟩ := bd_iff.mp hab
      obtain ⟨w2, d1, q2, hab⟩ := bd_iff.mp hab
      obtain ⟨w3, u3, q3, hab⟩ := bd_iff.mp hab
      obtain ⟨w4, d2, q4, hab⟩ := bd_iff.mp hab
      obtain ⟨w5, u5, q5, hab⟩ := bd_iff.mp hab
      obtain ⟨w6, d3, q6, hab⟩ := bd_iff.mp hab
      obtain ⟨w7, u7, q7, hab⟩ := bd_iff.mp hab
      cases hab
      refine ⟨?_, ?_⟩
      · rw [g5 w5 (d1 ++ d2) (by simp only [q0, q1, q2, q3, q4, q5, bd_inr]), List.length_append]
      · rw [g9 a (d1 ++ d2 ++ [(6, 0)] ++ d3 ++ [(7, 0)]) (by simp only [q0, q1, q2, q3, q4, q5, q6, q7, bd_inr])]
        simp only [List.length_append, List.length_singleton]
    rw [show bd s (fun a _ => bd (ifX (kd f n) (vl f n) a) (fun a' b => (Sum.inr (a', encB sz b) : hPR hCd))) = bd R (fun a' b => .inr (a', encB sz b)) by rw [← hR, bd_assoc]]
    obtain ⟨⟨y1, y2⟩, y3⟩ := e10
    rcases R with e | ⟨a, b⟩
    · exact ⟨pSt_of y1 (n1 7 (by decide)), pLg_of y2 (n1 58 (by decide))⟩
    · obtain ⟨v1, v2⟩ := y3 a b rfl
      obtain ⟨⟨y4, y5, y6, y7⟩, y8⟩ := y2
      have ha := y1.2.2.2.1
      simp only [List.length_append, List.length_singleton] at y8
      have hpz : pl = z5 := hpl.2.2 (by omega)
      rw [if_pos (by omega)] at n2
      refine ⟨pSt_of y1 (n1 7 (by decide)), ⟨fun j hj => by rw [n1 58 (by decide)]; exact y4 j hj, ?_, ?_, fun j hj => ?_⟩, ?_⟩
      · rw [n1 58 (by decide), y5, encB_len]; simp only [List.length_append, List.length_singleton]
      · rw [n1 59 (by decide), n2, hpz, v1, v2]
        unfold encB
        have hc := cdAt_set (st := σ9 59) (op := σ9 60) (p := sz) (A := b.1 ++ b.2.1) (B := b.2.2 ++ [(7, 0)]) (k := 6) (o := 0) (o' := nI (sz + (b.1.length + b.2.1.length + 1 + b.2.2.length + 1))) (by rw [← List.append_assoc]; exact y6)
        rw [← List.append_assoc, List.length_append] at hc
        exact hc
      · rw [n1 59 (by decide), n2, pk_un (by omega)]; exact y7 j hj
      · rw [encB_len]; omega
end S77

