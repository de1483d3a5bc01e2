section S94
variable {G : hGl} {σ : hS} {τ : hT} {x y : Option Nat}
/-- behind the IFs -/
def endX (K V : Nat → Nat) (a : Nat) (bs : List hBr) : hPR hLw := bd (eX K V a) (fun a2 c => bd (tk K 27 a2) (fun a3 _ => .inr (a3, (bs, c))))
def pLwM (f : hF) (n k L b0 p0 hB hi : Nat) (R : hPR hLw) (σ σ' : hS) : Prop := kM fTm σ σ' ∧ cdF p0 hi σ σ' ∧ tbF b0 hB σ σ' ∧ mSt f n (stR R) σ' ∧ match R with
  | .inl _ => σ' 86 = σ 86 ∧ σ' 87 = σ 87
  | .inr (_, l) => σ' 86 = upd (σ 86) (5 * L + k) (nI b0) ∧ σ' 87 = upd (σ 87) (5 * L + k) (nI (b0 + l.1.length + 1)) ∧ σ' 64 37 = nI (b0 + l.1.length + 1) ∧ σ' 64 43 = nI (p0 + brls l.1 + l.2.length) ∧ σ' 64 12 = 0 ∧ lwTab σ' b0 p0 l
theorem tail_e {K V : Nat → Nat} {s : hPR Unit} {bs : List hBr} {e : Nat × Nat} (h : bd (stR (bd s (fun a _ => eX K V a))) (fun a _ => tk K 27 a) = .inl e) : bd s (fun a _ => endX K V a bs) = .inl e := by
  rcases s with e1 | ⟨a, u⟩
  · cases h; rfl
  · have h' : bd (stR (eX K V a)) (fun a _ => tk K 27 a) = .inl e := h
    show bd (eX K V a) _ = _
    rcases he : eX K V a with e2 | ⟨a2, c⟩
    · rw [he] at h'; cases h'; rfl
    · rw [he] at h'
      have h2 : tk K 27 a2 = .inl e := h'
      show bd (tk K 27 a2) _ = _
      rw [h2]; rfl
theorem tail_o {K V : Nat → Nat} {s : hPR Unit} {bs : List hBr} {a3 : Nat} {u3 : Unit} (h : bd (stR (bd s (fun a _ => eX K V a))) (fun a _ => tk K 27 a) = .inr (a3, u3)) : ∃ a u a2 c, s = .inr (a, u) ∧ eX K V a = .inr (a2, c) ∧ bd s (fun a _ => endX K V a bs) = .inr (a3, (bs, c)) := by
  rcases s with e1 | ⟨a, u⟩
  · cases h
  · have h' : bd (stR (eX K V a)) (fun a _ => tk K 27 a) = .inr (a3, u3) := h
    rcases he : eX K V a with e2 | ⟨a2, c⟩
    · rw [he] at h'; cases h'
    · rw [he] at h'
      have h2 : tk K 27 a2 = .inr (a3, u3) := h'
      refine ⟨a, u, a2, c, rfl, he, ?_⟩
      show bd (eX K V a) _ = _
      rw [he]
      show bd (tk K 27 a2) _ = _
      rw [h2]; rfl
theorem bd_bd {α β γ : Type} {r : hPR α} {g : Nat → α → hPR β} {h : Nat → β → hPR γ} : bd (bd r g) h = bd r (fun a c => bd (g a c) h) := by
  rcases r with e | ⟨a, c⟩ <;> rfl
theorem sB_e {α : Type} {K : Nat → Nat} {k : Nat} {R1 : hPR hCd} {F : Nat → hCd → hPR α} {e : Nat × Nat} (h : bd (stR R1) (fun a _ => tk K k a) = .inl e) : bd R1 (fun a1 c1 => bd (tk K k a1) (fun a2 _ => F a2 c1)) = .inl e := by
  rcases R1 with e1 | ⟨a1, c1⟩
  · cases h; rfl
  · have h' : tk K k a1 = .inl e := h
    show bd (tk K k a1) _ = _
    rw [h']; rfl
theorem sB_o {α : Type} {K : Nat → Nat} {k : Nat} {R1 : hPR hCd} {F : Nat → hCd → hPR α} {a2 : Nat} {u2 : Unit} (h : bd (stR R1) (fun a _ => tk K k a) = .inr (a2, u2)) : ∃ a1 c1, R1 = .inr (a1, c1) ∧ a1 < 400 ∧ a2 = a1 + 1 ∧ bd R1 (fun a1 c1 => bd (tk K k a1) (fun a2 _ => F a2 c1)) = F a2 c1 := by
  rcases R1 with e1 | ⟨a1, c1⟩
  · cases h
  · have h' : tk K k a1 = .inr (a2, u2) := h
    have h2 : a1 < 400 ∧ a2 = a1 + 1 := by
      unfold tk pass at h'
      repeat' split at h'
      all_goals cases h'
      exact ⟨by assumption, rfl⟩
    refine ⟨a1, c1, rfl, h2.1, h2.2, ?_⟩
    show bd (tk K k a1) _ = _
    rw [h']; rfl
def if3 (K V : Nat → Nat) (c1 c2 : hCd) (a4 : Nat) : hPR hBr := bd (eX K V a4) (fun a5 c3 => bd (tk K 13 a5) (fun a6 _ => .inr (a6, (c1, c2, c3))))
def if2 (K V : Nat → Nat) (a2 : Nat) (c1 : hCd) : hPR hBr := bd (eX K V a2) (fun a3 c2 => bd (tk K 12 a3) (fun a4 _ => if3 K V c1 c2 a4))
theorem lwF_tr {b0 b1 hB p0 p1 hi : Nat} {σ σ1 σ2 : hS} (h : lwF b0 hB p0 hi σ σ1) (h2 : lwF b1 hB p1 hi σ1 σ2) (hb : b0 ≤ b1) (hp : p0 ≤ p1) : lwF b0 hB p0 hi σ σ2 := by
  obtain ⟨a1, a2, a3, a4, a5, a6⟩ := h
  obtain ⟨c1, c2, c3, c4, c5, c6⟩ := h2
  exact ⟨off_tr a1 c1 (by decide) (by decide), kM_tr a2 c2 (by decide) (by decide), cdF_tr a3 c3 hp, tbF_tr a4 c4 hb, c5.trans a5, c6.trans a6⟩
theorem d_tellLaw {f : hF} {n k L b0 p0 hB hi : Nat} {s : hPR Unit} (ht : tokM f n σ τ) (hs : mSt f n s σ) (hL : σ 64 19 = nI L) (hL2 : L < 2) (hk : k < 5) (h37 : σ 64 37 = nI b0) (hb : b0 + 5 ≤ hB) (hB2 : hB ≤ 260) (ho : ∀ a u, s = .inr (a, u) → σ 64 43 = nI p0 ∧ σ 64 12 = 0 ∧ p0 + 407 ≤ hi + a) (hh : hi ≤ 840) : hCal G (m_X12_tellLaw (hQp xLm none (rr 38 51 x y) σ τ (pLwM f n k L b0 p0 hB hi (bd s (fun a _ => lawX (kd f n) (vl f n) a)) σ))) [.ref (hgA G 64), .int (nI k)] shp (rr 38 51 x y) σ τ := by
  generalize hR0 : bd s (fun a _ => lawX (kd f n) (vl f n) a) = R
  refine hv_enter pn_X12 rfl ?_
  generalize hQ : hQp xLm none (rr 38 51 x y) σ τ (pLwM f n k L b0 p0 hB hi R σ) = Q
  have out : ∀ (e : Nat × Nat) (σ1 : hS), R = .inl e → lwF b0 hB p0 hi σ σ1 → mSt f n (.inl e) σ1 → Q none (rr 38 51 x y) σ1 τ := by
    intro e σ1 hR ⟨h1, h2, h3, h4, h5, h6⟩ h7
    subst hR
    rw [← hQ]
    exact ⟨rfl, rfl, rfl, h1, h2, h3, h4, h7, h5, h6⟩
  have tail : ∀ (s1 : hPR Unit) bs b (σ1 : hS) (l3 : Int32), lwF b0 hB p0 hi σ σ1 → mSt f n s1 σ1 → σ1 64 37 = nI b → b0 ≤ b → b < hB → (∀ a u, s1 = .inr (a, u) → b = b0 + bs.length ∧ σ1 64 43 = nI (p0 + brls bs) ∧ σ1 64 12 = 0 ∧ bsTab σ1 b0 p0 bs ∧ p0 + brls bs + 407 ≤ hi + a) → R = bd s1 (fun a _ => endX (kd f n) (vl f n) a bs) → hV G (m_X12_tellLaw Q) 0 0 shp 129 [some (.ref (hgA G 64)), some (.int (nI k)), some (.int (nI b0)), some (.int l3)] [] (rr 38 51 x y) σ1 τ := by
    intro s1 bs b σ1 l3 hF hm hb1 hb2 hb3 hx hR
    have t1 := tokM_of ht hF.1 rfl
    have hF2 := lwF_u88 (v := vp_nar .boolean 0) hF hb2 hb3
    have hm2 : mSt f n s1 (va_up σ1 88 (upd (σ1 88) b (vp_nar .boolean 0))) := mSt_of hm rfl rfl rfl
    rcases hfin : bd (stR (bd s1 (fun a _ => eX (kd f n) (vl f n) a))) (fun a _ => tk (kd f n) 27 a) with e | ⟨a3, u3⟩
    · have hRe := hR.trans (tail_e hfin)
      refine hv_aload_n dX12_tellLaw_129 rfl ?_
      refine hv_getr dX12_tellLaw_130 fl_X12_88 (by first | rfl | assumption) rfl (by first | rfl | assumption) ?_
      refine hv_aload_n dX12_tellLaw_133 rfl ?_
      refine hv_geti dX12_tellLaw_134 fl_X12_242 (by first | rfl | assumption) rfl ?_
      refine hv_iconst (v := 0) dX12_tellLaw_137 (by decide) ?_
      refine hv_zast dX12_tellLaw_138 (by first | rfl | assumption) (j := b) hb1 (by omega) (by first | decide | assumption) ?_
      refine hv_aload_n dX12_tellLaw_139 rfl ?_
      refine hv_cv0 (d_term (p := p0 + brls bs) (b := b) (hi := hi) (tokM_of ht hF2.1 rfl) hm2 hb1 (by omega) (fun a u q => ⟨(hx a u q).2.1, (hx a u q).2.2.1, (hx a u q).2.2.2.2⟩) hh) dX12_tellLaw_140 ml_X12_299 mk_X12_term (by first | rfl | assumption) rfl rfl rfl rfl rfl ?_
      rintro _ _ σ3 _ ⟨rfl, rfl, rfl, a1, a2, a3, a4, a5, a6, a7, a8⟩
      have hF3 := lwF_t hF2 a1 a2 a3 a6 a7 (by omega) hb2 hb3
      refine hv_aload_n dX12_tellLaw_143 rfl ?_
      refine hv_iconst (v := 4) dX12_tellLaw_144 (by decide) ?_
      refine hv_cv1 (d_must (k := 27) (by decide) (by decide) (by decide) (tokM_of ht hF3.1 rfl) a4) dX12_tellLaw_145 ml_X12_261 mk_X12_must (by first | rfl | assumption) rfl rfl rfl rfl rfl ?_
      rintro _ _ σ4 _ ⟨rfl, rfl, rfl, b1, b2, b3⟩
      rw [hfin] at b3
      refine hv_aload_n dX12_tellLaw_148 rfl ?_
      refine hv_geti dX12_tellLaw_149 fl_X12_203 (by first | rfl | assumption) rfl ?_
      refine hv_if_le (tgt := 156) dX12_tellLaw_152 (by decide) (fun c_152 => absurd c_152 ((by obtain ⟨x, t⟩ := e; rw [b3.1]; rcases b3.2.1 with q | q <;> rw [q] <;> decide))) (fun c_152 => ?_)
      refine hv_vret dX12_tellLaw_155 rfl ?_
      exact out e σ4 hRe (lwF_m hF3 b1 b2) b3
    · obtain ⟨a, u, a2, c, q1, q2, q3⟩ := tail_o (bs := bs) hfin
      have hRo := hR.trans q3
      obtain ⟨x1, x2, x3, x4, x5⟩ := hx a u q1
      refine hv_aload_n dX12_tellLaw_129 rfl ?_
      refine hv_getr dX12_tellLaw_130 fl_X12_88 (by first | rfl | assumption) rfl (by first | rfl | assumption) ?_
      refine hv_aload_n dX12_tellLaw_133 rfl ?_
      refine hv_geti dX12_tellLaw_134 fl_X12_242 (by first | rfl | assumption) rfl ?_
      refine hv_iconst (v := 0) dX12_tellLaw_137 (by decide) ?_
      refine hv_zast dX12_tellLaw_138 (by first | rfl | assumption) (j := b) hb1 (by omega) (by first | decide | assumption) ?_
      refine hv_aload_n dX12_tellLaw_139 rfl ?_
      refine hv_cv0 (d_term (p := p0 + brls bs) (b := b) (hi := hi) (tokM_of ht hF2.1 rfl) hm2 hb1 (by omega) (fun a u q => ⟨(hx a u q).2.1, (hx a u q).2.2.1, (hx a u q).2.2.2.2⟩) hh) dX12_tellLaw_140 ml_X12_299 mk_X12_term (by first | rfl | assumption) rfl rfl rfl rfl rfl ?_
      rintro _ _ σ3 _ ⟨rfl, rfl, rfl, a1, a2', a3', a4, a5, a6, a7, a8⟩
      have hF3 := lwF_t hF2 a1 a2' a3' a6 a7 (by omega) hb2 hb3
      refine hv_aload_n dX12_tellLaw_143 rfl ?_
      refine hv_iconst (v := 4) dX12_tellLaw_144 (by decide) ?_
      refine hv_cv1 (d_must (k := 27) (by decide) (by decide) (by decide) (tokM_of ht hF3.1 rfl) a4) dX12_tellLaw_145 ml_X12_261 mk_X12_must (by first | rfl | assumption) rfl rfl rfl rfl rfl ?_
      rintro _ _ σ4 _ ⟨rfl, rfl, rfl, b1, b2, b3⟩
      rw [hfin] at b3
      have hF4 := lwF_m hF3 b1 b2
      have e19 : σ4 64 19 = nI L := by rw [hF4.2.1 19 (by decide)]; exact hL
      have e37 : σ4 64 37 = nI (b0 + bs.length + 1) := by rw [b2 37 (by decide), a5, x1]
      refine hv_aload_n dX12_tellLaw_148 rfl ?_
      refine hv_geti dX12_tellLaw_149 fl_X12_203 (by first | rfl | assumption) rfl ?_
      refine hv_if_le (tgt := 156) dX12_tellLaw_152 (by decide) (fun c_152 => ?_) (fun c_152 => absurd ((by rw [b3.1]; decide)) c_152)
      refine hv_aload_n dX12_tellLaw_156 rfl ?_
      refine hv_getr dX12_tellLaw_157 fl_X12_82 (by first | rfl | assumption) rfl (by first | rfl | assumption) ?_
      refine hv_iconst (v := 5) dX12_tellLaw_160 (by decide) ?_
      refine hv_aload_n dX12_tellLaw_161 rfl ?_
      refine hv_geti dX12_tellLaw_162 fl_X12_236 (by first | rfl | assumption) rfl ?_
      refine hv_imul dX12_tellLaw_165 ?_
      refine hv_iload_n dX12_tellLaw_166 rfl ?_
      refine hv_iadd dX12_tellLaw_167 ?_
      refine hv_iload_n dX12_tellLaw_168 rfl ?_
      refine hv_iast dX12_tellLaw_169 (by first | rfl | assumption) (j := 5 * L + k) (by rw [e19]; exact ix5) (by omega) (by first | decide | assumption) ?_
      refine hv_aload_n dX12_tellLaw_170 rfl ?_
      refine hv_getr dX12_tellLaw_171 fl_X12_85 (by first | rfl | assumption) rfl (by first | rfl | assumption) ?_
      refine hv_iconst (v := 5) dX12_tellLaw_174 (by decide) ?_
      refine hv_aload_n dX12_tellLaw_175 rfl ?_
      refine hv_geti dX12_tellLaw_176 fl_X12_236 (by first | rfl | assumption) rfl ?_
      refine hv_imul dX12_tellLaw_179 ?_
      refine hv_iload_n dX12_tellLaw_180 rfl ?_
      refine hv_iadd dX12_tellLaw_181 ?_
      refine hv_aload_n dX12_tellLaw_182 rfl ?_
      refine hv_geti dX12_tellLaw_183 fl_X12_242 (by first | rfl | assumption) rfl ?_
      refine hv_iast dX12_tellLaw_186 (by first | rfl | assumption) (j := 5 * L + k) (by show 5 * σ4 64 19 + nI k = _; rw [e19]; exact ix5) (by omega) (by first | decide | assumption) ?_
      refine hv_vret dX12_tellLaw_187 rfl ?_
      obtain ⟨g1, g2, g3, g4, g5, g6⟩ := hF4
      obtain ⟨z1, z2, z3, z4, z5⟩ := a8 a2 c (by rw [q1]; exact q2)
      rw [← hQ, hRo]
      have wk : ∀ j, j ∉ [86, 87] → va_up (va_up σ4 86 (upd (σ4 86) (5 * L + k) (nI b0))) 87 (upd (σ4 87) (5 * L + k) (σ4 64 37)) j = σ4 j := off_up (off_up (fun _ _ => rfl) (by decide)) (by decide)
      refine ⟨rfl, rfl, rfl, off_up (off_up g1 (by decide)) (by decide), kM_c (kM_c g2 (by decide)) (by decide), g3, g4, mSt_of b3 rfl rfl rfl, ?_, ?_, e37, ?_, ?_, ?_, ?_⟩
      · show upd (σ4 86) (5 * L + k) (nI b0) = _; rw [g5]
      · show upd (σ4 87) (5 * L + k) (σ4 64 37) = _; rw [g6, e37]
      · show σ4 64 43 = _; rw [b2 43 (by decide)]; exact z1
      · show σ4 64 12 = _; rw [b2 12 (by decide)]; exact z3
      · refine bsTab_ext (m := b) (q := p0 + brls bs) x4 (by rw [x1]; exact Nat.le_refl _) (Nat.le_refl _) (fun j hj => ?_) (fun j hj => ?_)
        · show σ4 88 j = _ ∧ σ4 89 j = _ ∧ σ4 90 j = _ ∧ σ4 91 j = _ ∧ σ4 92 j = _
          rw [b1 88 (by decide), b1 89 (by decide), b1 90 (by decide), b1 91 (by decide), b1 92 (by decide), a1 88 (by decide), a1 89 (by decide), a1 90 (by decide), a6 j (by omega), a7 j (by omega), hup_eq, pk_un (by omega)]
          exact ⟨rfl, rfl, rfl, rfl, rfl⟩
        · show σ4 93 j = _ ∧ σ4 94 j = _
          rw [b1 93 (by decide), b1 94 (by decide)]
          exact a3' j (Or.inl hj)
      · rw [← x1]
        refine ⟨?_, ?_, ?_, ?_⟩
        · show σ4 88 b = _; rw [b1 88 (by decide), a1 88 (by decide), hup_eq, pk_us]; decide
        · show σ4 91 b = _; rw [b1 91 (by decide)]; exact z4
        · show σ4 92 b = _; rw [b1 92 (by decide)]; exact z5
        · show cdAt (σ4 93) (σ4 94) _ _; rw [b1 93 (by decide), b1 94 (by decide)]; exact z2
  have fx12 : ∀ (e : Nat × Nat) b (σ1 : hS) (l3 : Int32), R = .inl e → lwF b0 hB p0 hi σ σ1 → mSt f n (.inl e) σ1 → σ1 64 37 = nI b → b0 ≤ b → b < hB → hV G (m_X12_tellLaw Q) 0 0 shp 12 [some (.ref (hgA G 64)), some (.int (nI k)), some (.int (nI b0)), some (.int l3)] [] (rr 38 51 x y) σ1 τ := by
    intro e b σ1 l3 hR hF hm hb1 hb2 hb3
    refine hv_aload_n dX12_tellLaw_12 rfl ?_
    refine hv_geti dX12_tellLaw_13 fl_X12_203 (by first | rfl | assumption) rfl ?_
    refine hv_if_ne (tgt := 129) dX12_tellLaw_16 (by decide) (fun c_16 => ?_) (fun c_16 => absurd c_16 ((by obtain ⟨x, t⟩ := e; rw [hm.1]; exact nI_ne0 (by have := hm.2.1; omega) (by have := hm.2.1; omega))))
    exact tail (.inl e) [] b σ1 l3 hF hm hb1 hb2 hb3 (fun a u q => (nomatch q)) hR
  have loop : ∀ j i bs a (σ1 : hS), i + j = 4 → bs.length = i → lwF b0 hB p0 hi σ σ1 → mSt f n (.inr (a, ())) σ1 → σ1 64 37 = nI (b0 + i) → σ1 64 43 = nI (p0 + brls bs) → σ1 64 12 = 0 → bsTab σ1 b0 p0 bs → p0 + brls bs + 407 ≤ hi + a → R = bd (ifsX (kd f n) (vl f n) j a bs) (fun a1 bs => endX (kd f n) (vl f n) a1 bs) → hV G (m_X12_tellLaw Q) 0 0 shp 12 [some (.ref (hgA G 64)), some (.int (nI k)), some (.int (nI b0)), some (.int (nI i))] [] (rr 38 51 x y) σ1 τ := by
    intro j
    induction j with
    | zero =>
      intro i bs a σ1 hij hbi hF hm e37 e43 e12 hbs hp hR
      have t1 := tokM_of ht hF.1 rfl
      obtain rfl : i = 4 := by omega
      have e0 : ifsX (kd f n) (vl f n) 0 a bs = if kd f n a = 11 then .inl (2, a) else .inr (a, bs) := rfl
      rw [e0] at hR
      by_cases k11 : kd f n a = 11
      · rw [if_pos k11] at hR
        refine hv_aload_n dX12_tellLaw_12 rfl ?_
        refine hv_geti dX12_tellLaw_13 fl_X12_203 (by first | rfl | assumption) rfl ?_
        refine hv_if_ne (tgt := 129) dX12_tellLaw_16 (by decide) (fun c_16 => absurd (hm.1) c_16) (fun c_16 => ?_)
        refine hv_aload_n dX12_tellLaw_19 rfl ?_
        refine hv_bipush (v := 31) dX12_tellLaw_20 (by decide) ?_
        refine hv_cv1 (d_is (k := 11) (by decide) (by decide) t1 hm) dX12_tellLaw_22 ml_X12_221 mk_X12_is (by first | rfl | assumption) rfl rfl rfl rfl rfl ?_
        rintro _ _ _ _ ⟨rfl, rfl, rfl, rfl⟩
        rw [isM_t k11]
        refine hv_if_eq (tgt := 129) dX12_tellLaw_25 (by decide) (fun c_25 => absurd c_25 ((show ¬ bI true = 0 by decide))) (fun c_25 => ?_)
        refine hv_iload_n dX12_tellLaw_28 rfl ?_
        refine hv_iconst (v := 4) dX12_tellLaw_29 (by decide) ?_
        refine hv_icmp_ne (tgt := 38) dX12_tellLaw_30 (by decide) (fun c_30 => absurd (rfl) c_30) (fun c_30 => ?_)
        refine hv_aload_n dX12_tellLaw_33 rfl ?_
        refine hv_iconst (v := 2) dX12_tellLaw_34 (by decide) ?_
        refine hv_cv1 (d_fail (k := 2) rfl (Or.inr rfl) t1 hm) dX12_tellLaw_35 ml_X12_218 mk_X12_fail (by first | rfl | assumption) rfl rfl rfl rfl rfl ?_
        rintro _ _ σ2 _ ⟨rfl, rfl, rfl, a1, a2, a3⟩
        refine hv_aload_n dX12_tellLaw_38 rfl ?_
        refine hv_geti dX12_tellLaw_39 fl_X12_203 (by first | rfl | assumption) rfl ?_
        refine hv_if_le (tgt := 46) dX12_tellLaw_42 (by decide) (fun c_42 => absurd c_42 ((by rw [a3.1]; decide))) (fun c_42 => ?_)
        refine hv_vret dX12_tellLaw_45 rfl ?_
        exact out (2, a) σ2 hR (lwF_m hF a1 (kM_tr a2 kM_rf (Y := []) (by decide) (by decide))) a3
      · rw [if_neg k11] at hR
        refine hv_aload_n dX12_tellLaw_12 rfl ?_
        refine hv_geti dX12_tellLaw_13 fl_X12_203 (by first | rfl | assumption) rfl ?_
        refine hv_if_ne (tgt := 129) dX12_tellLaw_16 (by decide) (fun c_16 => absurd (hm.1) c_16) (fun c_16 => ?_)
        refine hv_aload_n dX12_tellLaw_19 rfl ?_
        refine hv_bipush (v := 31) dX12_tellLaw_20 (by decide) ?_
        refine hv_cv1 (d_is (k := 11) (by decide) (by decide) t1 hm) dX12_tellLaw_22 ml_X12_221 mk_X12_is (by first | rfl | assumption) rfl rfl rfl rfl rfl ?_
        rintro _ _ _ _ ⟨rfl, rfl, rfl, rfl⟩
        rw [isM_f k11]
        refine hv_if_eq (tgt := 129) dX12_tellLaw_25 (by decide) (fun c_25 => ?_) (fun c_25 => absurd ((show bI false = 0 by decide)) c_25)
        exact tail (.inr (a, ())) bs (b0 + 4) σ1 _ hF hm e37 (by omega) (by omega) (fun a' u q => by cases q; exact ⟨by rw [hbi], e43, e12, hbs, hp⟩) hR
    | succ j ih =>
      intro i bs a σ1 hij hbi hF hm e37 e43 e12 hbs hp hR
      have t1 := tokM_of ht hF.1 rfl
      have e0 : ifsX (kd f n) (vl f n) (j + 1) a bs = if kd f n a = 11 then bd (ifX (kd f n) (vl f n) a) (fun a b => ifsX (kd f n) (vl f n) j a (bs ++ [b])) else .inr (a, bs) := rfl
      rw [e0] at hR
      by_cases k11 : kd f n a = 11
      · rw [if_pos k11] at hR
        have hi4 : i < 4 := by omega
        have hX : ifX (kd f n) (vl f n) a = bd (bd (pass a) (fun a _ => eX (kd f n) (vl f n) a)) (fun a1 c1 => bd (tk (kd f n) 33 a1) (fun a2 _ => if2 (kd f n) (vl f n) a2 c1)) := by rw [bd_bd]; rfl
        rw [hX] at hR
        have hob := eX_ok (kd f n) (vl f n)
        refine hv_aload_n dX12_tellLaw_12 rfl ?_
        refine hv_geti dX12_tellLaw_13 fl_X12_203 (by first | rfl | assumption) rfl ?_
        refine hv_if_ne (tgt := 129) dX12_tellLaw_16 (by decide) (fun c_16 => absurd (hm.1) c_16) (fun c_16 => ?_)
        refine hv_aload_n dX12_tellLaw_19 rfl ?_
        refine hv_bipush (v := 31) dX12_tellLaw_20 (by decide) ?_
        refine hv_cv1 (d_is (k := 11) (by decide) (by decide) t1 hm) dX12_tellLaw_22 ml_X12_221 mk_X12_is (by first | rfl | assumption) rfl rfl rfl rfl rfl ?_
        rintro _ _ _ _ ⟨rfl, rfl, rfl, rfl⟩
        rw [isM_t k11]
        refine hv_if_eq (tgt := 129) dX12_tellLaw_25 (by decide) (fun c_25 => absurd c_25 ((show ¬ bI true = 0 by decide))) (fun c_25 => ?_)
        refine hv_iload_n dX12_tellLaw_28 rfl ?_
        refine hv_iconst (v := 4) dX12_tellLaw_29 (by decide) ?_
        refine hv_icmp_ne (tgt := 38) dX12_tellLaw_30 (by decide) (fun c_30 => ?_) (fun c_30 => absurd c_30 ((fun q => by have := (nI_eq (b := 4) (by omega) (by decide)).mp q; omega)))
        refine hv_aload_n dX12_tellLaw_38 rfl ?_
        refine hv_geti dX12_tellLaw_39 fl_X12_203 (by first | rfl | assumption) rfl ?_
        refine hv_if_le (tgt := 46) dX12_tellLaw_42 (by decide) (fun c_42 => ?_) (fun c_42 => absurd ((by rw [hm.1]; decide)) c_42)
        refine hv_iinc dX12_tellLaw_46 rfl (nI_1 i) rfl rfl ?_
        refine hv_aload_n dX12_tellLaw_49 rfl ?_
        refine hv_cv0 (d_goesOn t1 hm (fun b w q => by cases q; omega)) dX12_tellLaw_50 ml_X12_224 mk_X12_goesOn (by first | rfl | assumption) rfl rfl rfl rfl rfl ?_
        rintro _ _ σ2 _ ⟨rfl, rfl, rfl, b1, b2, b3⟩
        have b3' : mSt f n (pass a) σ2 := b3
        have hF2 := lwF_m hF b1 b2
        have q37 : σ2 64 37 = nI (b0 + i) := by rw [b2 37 (by decide)]; exact e37
        have q43 : σ2 64 43 = nI (p0 + brls bs) := by rw [b2 43 (by decide)]; exact e43
        have q12 : σ2 64 12 = 0 := by rw [b2 12 (by decide)]; exact e12
        have hF3 := lwF_u89 (b := b0 + i) (v := σ2 64 43) (lwF_u88 (b := b0 + i) (v := vp_nar .boolean 1) hF2 (by omega) (by omega)) (by omega) (by omega)
        refine hv_aload_n dX12_tellLaw_53 rfl ?_
        refine hv_getr dX12_tellLaw_54 fl_X12_88 (by first | rfl | assumption) rfl (by first | rfl | assumption) ?_
        refine hv_aload_n dX12_tellLaw_57 rfl ?_
        refine hv_geti dX12_tellLaw_58 fl_X12_242 (by first | rfl | assumption) rfl ?_
        refine hv_iconst (v := 1) dX12_tellLaw_61 (by decide) ?_
        refine hv_zast dX12_tellLaw_62 (by first | rfl | assumption) (j := b0 + i) q37 (by omega) (by first | decide | assumption) ?_
        refine hv_aload_n dX12_tellLaw_63 rfl ?_
        refine hv_getr dX12_tellLaw_64 fl_X12_92 (by first | rfl | assumption) rfl (by first | rfl | assumption) ?_
        refine hv_aload_n dX12_tellLaw_67 rfl ?_
        refine hv_geti dX12_tellLaw_68 fl_X12_242 (by first | rfl | assumption) rfl ?_
        refine hv_aload_n dX12_tellLaw_71 rfl ?_
        refine hv_geti dX12_tellLaw_72 fl_X12_245 (by first | rfl | assumption) rfl ?_
        refine hv_iast dX12_tellLaw_75 (by first | rfl | assumption) (j := b0 + i) q37 (by omega) (by first | decide | assumption) ?_
        refine hv_aload_n dX12_tellLaw_76 rfl ?_
        refine hv_cv0 (d_exprU (s := pass a) (p0 := p0 + brls bs) (hi := hi) (tokM_of ht hF3.1 rfl) (mSt_of b3' rfl rfl rfl) (fun a' u q => ⟨q43, q12, by rcases pass_cases a with ⟨_, p2⟩ | ⟨_, p2⟩ <;> rw [p2] at q <;> cases q; omega⟩) hh) dX12_tellLaw_77 ml_X12_296 mk_X12_expression (by first | rfl | assumption) rfl rfl rfl rfl rfl ?_
        rintro _ _ σ4 _ ⟨rfl, rfl, rfl, c0, c1, c2, c3, c4⟩
        have hF4 := lwF_x hF3 c0 c1 c2 (by omega)
        refine hv_aload_n dX12_tellLaw_80 rfl ?_
        refine hv_bipush (v := 13) dX12_tellLaw_81 (by decide) ?_
        refine hv_cv1 (d_must (k := 33) (by decide) (by decide) (by decide) (tokM_of ht hF4.1 rfl) c3) dX12_tellLaw_83 ml_X12_261 mk_X12_must (by first | rfl | assumption) rfl rfl rfl rfl rfl ?_
        rintro _ _ σ5 _ ⟨rfl, rfl, rfl, d1, d2, d3⟩
        have hF5 := lwF_m hF4 d1 d2
        have r37 : σ5 64 37 = nI (b0 + i) := by rw [d2 37 (by decide), c1 37 (by decide)]; exact q37
        have hF6 := lwF_u90 (b := b0 + i) (v := σ5 64 43) hF5 (by omega) (by omega)
        refine hv_aload_n dX12_tellLaw_86 rfl ?_
        refine hv_getr dX12_tellLaw_87 fl_X12_95 (by first | rfl | assumption) rfl (by first | rfl | assumption) ?_
        refine hv_aload_n dX12_tellLaw_90 rfl ?_
        refine hv_geti dX12_tellLaw_91 fl_X12_242 (by first | rfl | assumption) rfl ?_
        refine hv_aload_n dX12_tellLaw_94 rfl ?_
        refine hv_geti dX12_tellLaw_95 fl_X12_245 (by first | rfl | assumption) rfl ?_
        refine hv_iast dX12_tellLaw_98 (by first | rfl | assumption) (j := b0 + i) r37 (by omega) (by first | decide | assumption) ?_
        rcases hs2 : bd (stR (bd (pass a) (fun a _ => eX (kd f n) (vl f n) a))) (fun a _ => tk (kd f n) 33 a) with e | ⟨a2, u2⟩
        · rw [sB_e hs2] at hR
          have hRe : R = .inl e := hR
          rw [hs2] at d3
          have d3' : mSt f n (.inl e) (va_up σ5 90 (upd (σ5 90) (b0 + i) (σ5 64 43))) := mSt_of d3 rfl rfl rfl
          refine hv_aload_n dX12_tellLaw_99 rfl ?_
          refine hv_geti dX12_tellLaw_100 fl_X12_203 (by first | rfl | assumption) rfl ?_
          refine hv_if_ne (tgt := 110) dX12_tellLaw_103 (by decide) (fun c_103 => ?_) (fun c_103 => absurd c_103 ((by obtain ⟨x, t⟩ := e; show ¬ σ5 64 13 = 0; rw [d3.1]; exact nI_ne0 (by have := d3.2.1; omega) (by have := d3.2.1; omega))))
          refine hv_aload_n dX12_tellLaw_110 rfl ?_
          refine hv_bipush (v := 32) dX12_tellLaw_111 (by decide) ?_
          refine hv_cv1 (d_must (k := 12) (s := .inl e) (by decide) (by decide) (by decide) (tokM_of ht hF6.1 rfl) d3') dX12_tellLaw_113 ml_X12_261 mk_X12_must (by first | rfl | assumption) rfl rfl rfl rfl rfl ?_
          rintro _ _ σ7 _ ⟨rfl, rfl, rfl, g1, g2, g3⟩
          have hF7 := lwF_m hF6 g1 g2
          have s37 : σ7 64 37 = nI (b0 + i) := by rw [g2 37 (by decide)]; exact r37
          refine hv_aload_n dX12_tellLaw_116 rfl ?_
          refine hv_cv0 (d_term (s := .inl e) (p := p0 + brls bs) (b := b0 + i) (hi := hi) (tokM_of ht hF7.1 rfl) g3 s37 (by omega) (fun a u q => (nomatch q)) hh) dX12_tellLaw_117 ml_X12_299 mk_X12_term (by first | rfl | assumption) rfl rfl rfl rfl rfl ?_
          rintro _ _ σ8 _ ⟨rfl, rfl, rfl, j1, j2, j3, j4, j5, j6, j7, j8⟩
          have hF8 := lwF_t hF7 j1 j2 j3 j6 j7 (by omega) (by omega) (by omega)
          refine hv_aload_n dX12_tellLaw_120 rfl ?_
          refine hv_bipush (v := 33) dX12_tellLaw_121 (by decide) ?_
          refine hv_cv1 (d_must (k := 13) (s := .inl e) (by decide) (by decide) (by decide) (tokM_of ht hF8.1 rfl) j4) dX12_tellLaw_123 ml_X12_261 mk_X12_must (by first | rfl | assumption) rfl rfl rfl rfl rfl ?_
          rintro _ _ σ9 _ ⟨rfl, rfl, rfl, k1, k2, k3⟩
          refine hv_goto (tgt := 12) dX12_tellLaw_126 (by decide) ?_
          exact fx12 e (b0 + i + 1) σ9 _ hRe (lwF_m hF8 k1 k2) k3 (by rw [k2 37 (by decide)]; exact j5) (by omega) (by omega)
        · obtain ⟨a1, cc1, w1, w2, w3, w4⟩ := sB_o (F := if2 (kd f n) (vl f n)) hs2
          rw [w4] at hR
          rw [hs2] at d3
          have d3' : mSt f n (.inr (a2, u2)) (va_up σ5 90 (upd (σ5 90) (b0 + i) (σ5 64 43))) := mSt_of d3 rfl rfl rfl
          have hpa : a < 400 ∧ eX (kd f n) (vl f n) (a + 1) = .inr (a1, cc1) := by
            rcases pass_cases a with ⟨p1, p2⟩ | ⟨p1, p2⟩
            · rw [p2] at w1; exact ⟨p1, w1⟩
            · rw [p2] at w1; cases w1
          have hl1 := hob (a + 1) (by omega)
          rw [hpa.2] at hl1
          obtain ⟨l1a, l1b, l1c, ⟨l1d, l1e, l1f, l1g⟩, l1h⟩ := hl1
          obtain ⟨z1, z2, z3⟩ := c4 a1 cc1 w1
          have t43 : σ5 64 43 = nI (p0 + brls bs + cc1.length) := by rw [d2 43 (by decide)]; exact z1
          have t12 : σ5 64 12 = 0 := by rw [d2 12 (by decide)]; exact z3
          have hG2 : lwF (b0 + i) hB (p0 + brls bs) hi σ1 σ2 := lwF_m ⟨fun _ _ => rfl, kM_rf, cdF_rf, fun _ _ => ⟨rfl, rfl, rfl, rfl, rfl⟩, rfl, rfl⟩ b1 b2
          have hG3 := lwF_u89 (b := b0 + i) (v := σ2 64 43) (lwF_u88 (b := b0 + i) (v := vp_nar .boolean 1) hG2 (Nat.le_refl _) (by omega)) (Nat.le_refl _) (by omega)
          have hG4 := lwF_x hG3 c0 c1 c2 (Nat.le_refl _)
          have hG6 := lwF_u90 (b := b0 + i) (v := σ5 64 43) (lwF_m hG4 d1 d2) (Nat.le_refl _) (by omega)
          rcases hs3 : bd (stR (eX (kd f n) (vl f n) a2)) (fun a _ => tk (kd f n) 12 a) with e | ⟨a4, u4⟩
          · unfold if2 at hR
            rw [sB_e hs3] at hR
            have hRe : R = .inl e := hR
            refine hv_aload_n dX12_tellLaw_99 rfl ?_
            refine hv_geti dX12_tellLaw_100 fl_X12_203 (by first | rfl | assumption) rfl ?_
            refine hv_if_ne (tgt := 110) dX12_tellLaw_103 (by decide) (fun c_103 => absurd ((by show σ5 64 13 = 0; exact d3.1)) c_103) (fun c_103 => ?_)
            refine hv_aload_n dX12_tellLaw_106 rfl ?_
            refine hv_cv0 (d_exprU (s := .inr (a2, u2)) (p0 := p0 + brls bs + cc1.length) (hi := hi) (tokM_of ht hF6.1 rfl) d3' (fun a' u q => by cases q; exact ⟨t43, t12, by omega⟩) hh) dX12_tellLaw_107 ml_X12_296 mk_X12_expression (by first | rfl | assumption) rfl rfl rfl rfl rfl ?_
            rintro _ _ σ6 _ ⟨rfl, rfl, rfl, f0, f1, f2, f3, f4⟩
            have hF7 := lwF_x hF6 f0 f1 f2 (by omega)
            refine hv_aload_n dX12_tellLaw_110 rfl ?_
            refine hv_bipush (v := 32) dX12_tellLaw_111 (by decide) ?_
            refine hv_cv1 (d_must (k := 12) (by decide) (by decide) (by decide) (tokM_of ht hF7.1 rfl) f3) dX12_tellLaw_113 ml_X12_261 mk_X12_must (by first | rfl | assumption) rfl rfl rfl rfl rfl ?_
            rintro _ _ σ7 _ ⟨rfl, rfl, rfl, g1, g2, g3⟩
            have g3' : mSt f n (bd (stR (eX (kd f n) (vl f n) a2)) (fun a _ => tk (kd f n) 12 a)) σ7 := g3
            rw [hs3] at g3'
            have hF8 := lwF_m hF7 g1 g2
            have s37 : σ7 64 37 = nI (b0 + i) := by rw [g2 37 (by decide), f1 37 (by decide)]; exact r37
            refine hv_aload_n dX12_tellLaw_116 rfl ?_
            refine hv_cv0 (d_term (s := .inl e) (p := p0 + brls bs) (b := b0 + i) (hi := hi) (tokM_of ht hF8.1 rfl) g3' s37 (by omega) (fun a u q => (nomatch q)) hh) dX12_tellLaw_117 ml_X12_299 mk_X12_term (by first | rfl | assumption) rfl rfl rfl rfl rfl ?_
            rintro _ _ σ8 _ ⟨rfl, rfl, rfl, j1, j2, j3, j4, j5, j6, j7, j8⟩
            have hF9 := lwF_t hF8 j1 j2 j3 j6 j7 (by omega) (by omega) (by omega)
            refine hv_aload_n dX12_tellLaw_120 rfl ?_
            refine hv_bipush (v := 33) dX12_tellLaw_121 (by decide) ?_
            refine hv_cv1 (d_must (k := 13) (s := .inl e) (by decide) (by decide) (by decide) (tokM_of ht hF9.1 rfl) j4) dX12_tellLaw_123 ml_X12_261 mk_X12_must (by first | rfl | assumption) rfl rfl rfl rfl rfl ?_
            rintro _ _ σ9 _ ⟨rfl, rfl, rfl, k1, k2, k3⟩
            refine hv_goto (tgt := 12) dX12_tellLaw_126 (by decide) ?_
            exact fx12 e (b0 + i + 1) σ9 _ hRe (lwF_m hF9 k1 k2) k3 (by rw [k2 37 (by decide)]; exact j5) (by omega) (by omega)
          · obtain ⟨a3, cc2, v1, v2, v3, v4⟩ := sB_o (F := fun a4 c2 => if3 (kd f n) (vl f n) cc1 c2 a4) hs3
            have hR3 : R = bd (bd (if3 (kd f n) (vl f n) cc1 cc2 a4) (fun a b => ifsX (kd f n) (vl f n) j a (bs ++ [b]))) (fun a1 bs => endX (kd f n) (vl f n) a1 bs) := hR.trans (congrArg (fun z => bd (bd z (fun a b => ifsX (kd f n) (vl f n) j a (bs ++ [b]))) (fun a1 bs => endX (kd f n) (vl f n) a1 bs)) v4)
            have hl2 := hob a2 (by omega)
            rw [v1] at hl2
            obtain ⟨l2a, l2b, l2c, ⟨l2d, l2e, l2f, l2g⟩, l2h⟩ := hl2
            have walk2 : ∀ (RF : hPR Unit), bd (stR (eX (kd f n) (vl f n) a4)) (fun a _ => tk (kd f n) 13 a) = RF → (∀ σ8 σ9 : hS, lwF (b0 + i) hB (p0 + brls bs) hi σ1 σ9 → mSt f n RF σ9 → σ9 64 37 = nI (b0 + i + 1) → (∀ a5 cc3, eX (kd f n) (vl f n) a4 = .inr (a5, cc3) → σ9 64 43 = nI (p0 + brls bs + cc1.length + cc2.length + cc3.length) ∧ σ9 64 12 = 0 ∧ bTab σ9 (b0 + i) (p0 + brls bs) (cc1, cc2, cc3)) → hV G (m_X12_tellLaw Q) 0 0 shp 12 [some (.ref (hgA G 64)), some (.int (nI k)), some (.int (nI b0)), some (.int (nI (i + 1)))] [] (rr 38 51 x y) σ9 τ) → hV G (m_X12_tellLaw Q) 0 0 shp 99 [some (.ref (hgA G 64)), some (.int (nI k)), some (.int (nI b0)), some (.int (nI (i + 1)))] [] (rr 38 51 x y) (va_up σ5 90 (upd (σ5 90) (b0 + i) (σ5 64 43))) τ := by
              intro RF hRF go
              refine hv_aload_n dX12_tellLaw_99 rfl ?_
              refine hv_geti dX12_tellLaw_100 fl_X12_203 (by first | rfl | assumption) rfl ?_
              refine hv_if_ne (tgt := 110) dX12_tellLaw_103 (by decide) (fun c_103 => absurd ((by show σ5 64 13 = 0; exact d3.1)) c_103) (fun c_103 => ?_)
              refine hv_aload_n dX12_tellLaw_106 rfl ?_
              refine hv_cv0 (d_exprU (s := .inr (a2, u2)) (p0 := p0 + brls bs + cc1.length) (hi := hi) (tokM_of ht hF6.1 rfl) d3' (fun a' u q => by cases q; exact ⟨t43, t12, by omega⟩) hh) dX12_tellLaw_107 ml_X12_296 mk_X12_expression (by first | rfl | assumption) rfl rfl rfl rfl rfl ?_
              rintro _ _ σ6 _ ⟨rfl, rfl, rfl, f0, f1, f2, f3, f4⟩
              obtain ⟨y1, y2, y3⟩ := f4 a3 cc2 v1
              have hF7 := lwF_x hF6 f0 f1 f2 (by omega)
              have hG7 := lwF_x hG6 f0 f1 f2 (by omega)
              refine hv_aload_n dX12_tellLaw_110 rfl ?_
              refine hv_bipush (v := 32) dX12_tellLaw_111 (by decide) ?_
              refine hv_cv1 (d_must (k := 12) (by decide) (by decide) (by decide) (tokM_of ht hF7.1 rfl) f3) dX12_tellLaw_113 ml_X12_261 mk_X12_must (by first | rfl | assumption) rfl rfl rfl rfl rfl ?_
              rintro _ _ σ7 _ ⟨rfl, rfl, rfl, g1, g2, g3⟩
              have g3' : mSt f n (bd (stR (eX (kd f n) (vl f n) a2)) (fun a _ => tk (kd f n) 12 a)) σ7 := g3
              rw [hs3] at g3'
              have hF8 := lwF_m hF7 g1 g2
              have hG8 := lwF_m hG7 g1 g2
              have s37 : σ7 64 37 = nI (b0 + i) := by rw [g2 37 (by decide), f1 37 (by decide)]; exact r37
              refine hv_aload_n dX12_tellLaw_116 rfl ?_
              refine hv_cv0 (d_term (s := .inr (a4, u4)) (p := p0 + brls bs + cc1.length + cc2.length) (b := b0 + i) (hi := hi) (tokM_of ht hF8.1 rfl) g3' s37 (by omega) (fun a u q => by cases q; exact ⟨by rw [g2 43 (by decide)]; exact y1, by rw [g2 12 (by decide)]; exact y3, by omega⟩) hh) dX12_tellLaw_117 ml_X12_299 mk_X12_term (by first | rfl | assumption) rfl rfl rfl rfl rfl ?_
              rintro _ _ σ8 _ ⟨rfl, rfl, rfl, j1, j2, j3, j4, j5, j6, j7, j8⟩
              have hF9 := lwF_t hF8 j1 j2 j3 j6 j7 (by omega) (by omega) (by omega)
              have hG9 := lwF_t hG8 j1 j2 j3 j6 j7 (by omega) (Nat.le_refl _) (by omega)
              refine hv_aload_n dX12_tellLaw_120 rfl ?_
              refine hv_bipush (v := 33) dX12_tellLaw_121 (by decide) ?_
              refine hv_cv1 (d_must (k := 13) (by decide) (by decide) (by decide) (tokM_of ht hF9.1 rfl) j4) dX12_tellLaw_123 ml_X12_261 mk_X12_must (by first | rfl | assumption) rfl rfl rfl rfl rfl ?_
              rintro _ _ σ9 _ ⟨rfl, rfl, rfl, k1, k2, k3⟩
              have k3' : mSt f n (bd (stR (eX (kd f n) (vl f n) a4)) (fun a _ => tk (kd f n) 13 a)) σ9 := k3
              rw [hRF] at k3'
              refine hv_goto (tgt := 12) dX12_tellLaw_126 (by decide) ?_
              refine go σ8 σ9 (lwF_m hG9 k1 k2) k3' (by rw [k2 37 (by decide)]; exact j5) (fun a5 cc3 hq => ?_)
              obtain ⟨x1, x2, x3, x4, x5⟩ := j8 a5 cc3 hq
              refine ⟨by rw [k2 43 (by decide)]; exact x1, by rw [k2 12 (by decide)]; exact x3, ?_, ?_, ?_, ?_, ?_, ?_, ?_, ?_⟩
              · rw [k1 88 (by decide), j1 88 (by decide), g1 88 (by decide), f0 88 (by decide), hva_ne (by decide), d1 88 (by decide), c0 88 (by decide), hva_ne (by decide), hup_eq, pk_us]; decide
              · rw [k1 89 (by decide), j1 89 (by decide), g1 89 (by decide), f0 89 (by decide), hva_ne (by decide), d1 89 (by decide), c0 89 (by decide), hup_eq, pk_us]; exact q43
              · rw [k1 90 (by decide), j1 90 (by decide), g1 90 (by decide), f0 90 (by decide), hup_eq, pk_us]; exact t43
              · rw [k1 91 (by decide)]; exact x4
              · rw [k1 92 (by decide)]; exact x5
              · rw [k1 93 (by decide), k1 94 (by decide)]
                refine cdAt_ext _ _ (p0 + brls bs + cc1.length) (Nat.le_refl _) (fun q hq => ?_) (fun q hq => ?_) z2
                · rw [(j3 q (by omega)).1, g1 93 (by decide), (f2 q (by omega)).1, hva_ne (by decide), d1 93 (by decide)]
                · rw [(j3 q (by omega)).2, g1 94 (by decide), (f2 q (by omega)).2, hva_ne (by decide), d1 94 (by decide)]
              · rw [k1 93 (by decide), k1 94 (by decide)]
                refine cdAt_ext _ _ (p0 + brls bs + cc1.length + cc2.length) (Nat.le_refl _) (fun q hq => ?_) (fun q hq => ?_) y2
                · rw [(j3 q (by omega)).1, g1 93 (by decide)]
                · rw [(j3 q (by omega)).2, g1 94 (by decide)]
              · rw [k1 93 (by decide), k1 94 (by decide)]; exact x2
            rcases hs4 : bd (stR (eX (kd f n) (vl f n) a4)) (fun a _ => tk (kd f n) 13 a) with e | ⟨a6, u6⟩
            · have hRe : R = .inl e := by
                rw [hR3]; unfold if3; rw [sB_e hs4]; rfl
              exact walk2 _ hs4 (fun σ8 σ9 y1 y2 y3 _ => fx12 e (b0 + i + 1) σ9 _ hRe (lwF_tr hF y1 (by omega) (by omega)) y2 y3 (by omega) (by omega))
            · obtain ⟨a5, cc3, o1, o2, o3, o4⟩ := sB_o (F := fun a6 c3 => (.inr (a6, (cc1, cc2, c3)) : hPR hBr)) hs4
              have hl3 := hob a4 (by omega)
              rw [o1] at hl3
              obtain ⟨l3a, l3b, l3c, ⟨l3d, l3e, l3f, l3g⟩, l3h⟩ := hl3
              have hR4 : R = bd (ifsX (kd f n) (vl f n) j a6 (bs ++ [(cc1, cc2, cc3)])) (fun a1 bs => endX (kd f n) (vl f n) a1 bs) := hR3.trans (congrArg (fun z => bd (bd z (fun a b => ifsX (kd f n) (vl f n) j a (bs ++ [b]))) (fun a1 bs => endX (kd f n) (vl f n) a1 bs)) o4)
              have ebr : brl (cc1, cc2, cc3) = cc1.length + cc2.length + cc3.length := rfl
              refine walk2 _ hs4 (fun σ8 σ9 y1 y2 y3 y4 => ?_)
              obtain ⟨m1, m2, m3⟩ := y4 a5 cc3 o1
              refine ih (i + 1) (bs ++ [(cc1, cc2, cc3)]) a6 σ9 (by omega) (by rw [List.length_append, List.length_singleton, hbi]) (lwF_tr hF y1 (by omega) (by omega)) y2 y3 ?_ m2 ?_ ?_ hR4
              · rw [brls_app, ebr, m1]; congr 1; omega
              · refine bsTab_app bs _ b0 p0 (bsTab_ext (m := b0 + i) (q := p0 + brls bs) hbs (by omega) (Nat.le_refl _) (fun q hq => y1.2.2.2.1 q (Or.inl hq)) (fun q hq => y1.2.2.1 q (Or.inl hq))) ?_
                rw [hbi]; exact m3
              · rw [brls_app, ebr]; omega
      · rw [if_neg k11] at hR
        refine hv_aload_n dX12_tellLaw_12 rfl ?_
        refine hv_geti dX12_tellLaw_13 fl_X12_203 (by first | rfl | assumption) rfl ?_
        refine hv_if_ne (tgt := 129) dX12_tellLaw_16 (by decide) (fun c_16 => absurd (hm.1) c_16) (fun c_16 => ?_)
        refine hv_aload_n dX12_tellLaw_19 rfl ?_
        refine hv_bipush (v := 31) dX12_tellLaw_20 (by decide) ?_
        refine hv_cv1 (d_is (k := 11) (by decide) (by decide) t1 hm) dX12_tellLaw_22 ml_X12_221 mk_X12_is (by first | rfl | assumption) rfl rfl rfl rfl rfl ?_
        rintro _ _ _ _ ⟨rfl, rfl, rfl, rfl⟩
        rw [isM_f k11]
        refine hv_if_eq (tgt := 129) dX12_tellLaw_25 (by decide) (fun c_25 => ?_) (fun c_25 => absurd ((show bI false = 0 by decide)) c_25)
        exact tail (.inr (a, ())) bs (b0 + i) σ1 _ hF hm e37 (by omega) (by omega) (fun a' u q => by cases q; exact ⟨by rw [hbi], e43, e12, hbs, hp⟩) hR
  have lwF0 : lwF b0 hB p0 hi σ σ := ⟨fun _ _ => rfl, kM_rf, cdF_rf, fun _ _ => ⟨rfl, rfl, rfl, rfl, rfl⟩, rfl, rfl⟩
  refine hv_aload_n dX12_tellLaw_0 rfl ?_
  refine hv_iconst (v := 5) dX12_tellLaw_1 (by decide) ?_
  refine hv_cv1 (d_must (k := 28) (by decide) (by decide) (by decide) ht hs) dX12_tellLaw_2 ml_X12_261 mk_X12_must (by first | rfl | assumption) rfl rfl rfl rfl rfl ?_
  rintro _ _ σ1 _ ⟨rfl, rfl, rfl, a1, a2, a3⟩
  have q37 : σ1 64 37 = nI b0 := by rw [a2 37 (by decide)]; exact h37
  refine hv_aload_n dX12_tellLaw_5 rfl ?_
  refine hv_geti dX12_tellLaw_6 fl_X12_242 (by first | rfl | assumption) rfl ?_
  rw [q37]
  refine hv_istore_n dX12_tellLaw_9 rfl rfl ?_
  refine hv_iconst (v := 0) dX12_tellLaw_10 (by decide) ?_
  refine hv_istore_n dX12_tellLaw_11 rfl rfl ?_
  rcases s with e | ⟨a, u⟩
  · exact fx12 e b0 σ1 _ hR0.symm (lwF_m lwF0 a1 a2) a3 q37 (Nat.le_refl _) (by omega)
  · obtain ⟨o1, o2, o3⟩ := ho a u rfl
    have hR1 : R = bd (tk (kd f n) 28 a) (fun a _ => bd (ifsX (kd f n) (vl f n) 4 a []) (fun a1 bs => endX (kd f n) (vl f n) a1 bs)) := hR0.symm
    have a4 : mSt f n (tk (kd f n) 28 a) σ1 := a3
    rcases htk : tk (kd f n) 28 a with e | ⟨a', u'⟩
    · rw [htk] at hR1 a4
      exact fx12 e b0 σ1 _ hR1 (lwF_m lwF0 a1 a2) a4 q37 (Nat.le_refl _) (by omega)
    · rw [htk] at hR1 a4
      have ha' : a' = a + 1 := by
        unfold tk pass at htk
        repeat' split at htk
        all_goals cases htk
        all_goals rfl
      exact loop 4 0 [] a' σ1 rfl rfl (lwF_m lwF0 a1 a2) a4 q37 (by rw [a2 43 (by decide)]; exact o1) (by rw [a2 12 (by decide)]; exact o2) trivial (by show p0 + 0 + 407 ≤ hi + a'; omega) hR1
end S94

