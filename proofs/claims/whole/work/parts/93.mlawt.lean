/-! a LAW's tables -/
def brl (b : hBr) : Nat := b.1.length + b.2.1.length + b.2.2.length
def bTab (σ : hS) (b p : Nat) (br : hBr) : Prop := σ 88 b = 1 ∧ σ 89 b = nI p ∧ σ 90 b = nI (p + br.1.length) ∧ σ 91 b = nI (p + br.1.length + br.2.1.length) ∧ σ 92 b = nI (p + br.1.length + br.2.1.length + br.2.2.length) ∧ cdAt (σ 93) (σ 94) p br.1 ∧ cdAt (σ 93) (σ 94) (p + br.1.length) br.2.1 ∧ cdAt (σ 93) (σ 94) (p + br.1.length + br.2.1.length) br.2.2
def brls : List hBr → Nat
  | [] => 0
  | b :: bs => brl b + brls bs
def bsTab (σ : hS) : Nat → Nat → List hBr → Prop
  | _, _, [] => True
  | b, p, br :: bs => bTab σ b p br ∧ bsTab σ (b + 1) (p + brl br) bs
def eTab (σ : hS) (b p : Nat) (c : hCd) : Prop := σ 88 b = 0 ∧ σ 91 b = nI p ∧ σ 92 b = nI (p + c.length) ∧ cdAt (σ 93) (σ 94) p c
def lwTab (σ : hS) (b p : Nat) (l : hLw) : Prop := bsTab σ b p l.1 ∧ eTab σ (b + l.1.length) (p + brls l.1) l.2
def tbF (lo hi : Nat) (σ σ' : hS) : Prop := ∀ j, j < lo ∨ hi ≤ j → σ' 88 j = σ 88 j ∧ σ' 89 j = σ 89 j ∧ σ' 90 j = σ 90 j ∧ σ' 91 j = σ 91 j ∧ σ' 92 j = σ 92 j
theorem tbF_tr {lo lo' hi : Nat} {σ σ1 σ2 : hS} (h1 : tbF lo hi σ σ1) (h2 : tbF lo' hi σ1 σ2) (hl : lo ≤ lo') : tbF lo hi σ σ2 := fun j hj => by
  obtain ⟨a1, a2, a3, a4, a5⟩ := h1 j hj
  obtain ⟨b1, b2, b3, b4, b5⟩ := h2 j (by omega)
  exact ⟨b1.trans a1, b2.trans a2, b3.trans a3, b4.trans a4, b5.trans a5⟩
theorem brls_app : ∀ (bs : List hBr) (b : hBr), brls (bs ++ [b]) = brls bs + brl b
  | [], b => by simp [brls]
  | a :: bs, b => by show brl a + brls (bs ++ [b]) = brl a + brls bs + brl b; rw [brls_app bs b]; omega
theorem bsTab_app {σ : hS} : ∀ (bs : List hBr) (br : hBr) (b p : Nat), bsTab σ b p bs → bTab σ (b + bs.length) (p + brls bs) br → bsTab σ b p (bs ++ [br])
  | [], br, b, p, _, h => ⟨h, trivial⟩
  | a :: bs, br, b, p, ⟨h1, h2⟩, h => by
    refine ⟨h1, bsTab_app bs br (b + 1) (p + brl a) h2 ?_⟩
    rw [show b + 1 + bs.length = b + (a :: bs).length by simp; omega, show p + brl a + brls bs = p + brls (a :: bs) by show _ = p + (brl a + brls bs); omega]
    exact h
theorem bTab_ext {σ σ' : hS} {b p q m : Nat} {br : hBr} (h : bTab σ b p br) (hb : b < m) (hp : p + brl br ≤ q) (ht : ∀ j, j < m → σ' 88 j = σ 88 j ∧ σ' 89 j = σ 89 j ∧ σ' 90 j = σ 90 j ∧ σ' 91 j = σ 91 j ∧ σ' 92 j = σ 92 j) (hc : ∀ j, j < q → σ' 93 j = σ 93 j ∧ σ' 94 j = σ 94 j) : bTab σ' b p br := by
  obtain ⟨h1, h2, h3, h4, h5, h6, h7, h8⟩ := h
  obtain ⟨t1, t2, t3, t4, t5⟩ := ht b hb
  unfold brl at hp
  exact ⟨t1.trans h1, t2.trans h2, t3.trans h3, t4.trans h4, t5.trans h5, cdAt_ext _ _ q (by omega) (fun j hj => (hc j hj).1) (fun j hj => (hc j hj).2) h6, cdAt_ext _ _ q (by omega) (fun j hj => (hc j hj).1) (fun j hj => (hc j hj).2) h7, cdAt_ext _ _ q (by omega) (fun j hj => (hc j hj).1) (fun j hj => (hc j hj).2) h8⟩
theorem bsTab_ext {σ σ' : hS} {q m : Nat} : ∀ {bs : List hBr} {b p : Nat}, bsTab σ b p bs → b + bs.length ≤ m → p + brls bs ≤ q → (∀ j, j < m → σ' 88 j = σ 88 j ∧ σ' 89 j = σ 89 j ∧ σ' 90 j = σ 90 j ∧ σ' 91 j = σ 91 j ∧ σ' 92 j = σ 92 j) → (∀ j, j < q → σ' 93 j = σ 93 j ∧ σ' 94 j = σ 94 j) → bsTab σ' b p bs
  | [], _, _, _, _, _, _, _ => trivial
  | a :: bs, b, p, ⟨h1, h2⟩, hb, hp, ht, hc => by
    have e : p + (brl a + brls bs) ≤ q := hp
    rw [List.length_cons] at hb
    exact ⟨bTab_ext h1 (by omega) (by omega) ht hc, bsTab_ext h2 (by omega) (by omega) ht hc⟩
abbrev xLm : List Nat := [64, 86, 87, 88, 89, 90, 91, 92, 93, 94, 95]
/-- nothing but the law's own places -/
def lwF (b0 hB p0 hi : Nat) (σ σ1 : hS) : Prop := (∀ c, c ∉ xLm → σ1 c = σ c) ∧ kM fTm σ σ1 ∧ cdF p0 hi σ σ1 ∧ tbF b0 hB σ σ1 ∧ σ1 86 = σ 86 ∧ σ1 87 = σ 87
section S93
variable {b0 hB p0 hi : Nat} {σ σ1 σ2 : hS}
theorem lwF_m (h : lwF b0 hB p0 hi σ σ1) (h1 : ∀ k, k ∉ [64] → σ2 k = σ1 k) (h2 : kM [11, 13, 14] σ1 σ2) : lwF b0 hB p0 hi σ σ2 := by
  obtain ⟨a1, a2, a3, a4, a5, a6⟩ := h
  refine ⟨off_tr a1 h1 (by decide) (by decide), kM_tr a2 h2 (by decide) (by decide), cdF_tr a3 (cdF_e (h1 93 (by decide)) (h1 94 (by decide))) (Nat.le_refl _), tbF_tr a4 (fun j _ => ?_) (Nat.le_refl b0), by rw [h1 86 (by decide), a5], by rw [h1 87 (by decide), a6]⟩
  rw [h1 88 (by decide), h1 89 (by decide), h1 90 (by decide), h1 91 (by decide), h1 92 (by decide)]
  exact ⟨rfl, rfl, rfl, rfl, rfl⟩
theorem lwF_x {p : Nat} (h : lwF b0 hB p0 hi σ σ1) (h1 : ∀ k, k ∉ xYd → σ2 k = σ1 k) (h2 : kM fEx σ1 σ2) (h3 : cdF p hi σ1 σ2) (hp : p0 ≤ p) : lwF b0 hB p0 hi σ σ2 := by
  obtain ⟨a1, a2, a3, a4, a5, a6⟩ := h
  refine ⟨off_tr a1 h1 (by decide) (by decide), kM_tr a2 h2 (by decide) (by decide), cdF_tr a3 h3 hp, tbF_tr a4 (fun j _ => ?_) (Nat.le_refl b0), by rw [h1 86 (by decide), a5], by rw [h1 87 (by decide), a6]⟩
  rw [h1 88 (by decide), h1 89 (by decide), h1 90 (by decide), h1 91 (by decide), h1 92 (by decide)]
  exact ⟨rfl, rfl, rfl, rfl, rfl⟩
theorem lwF_t {p b : Nat} (h : lwF b0 hB p0 hi σ σ1) (h1 : ∀ k, k ∉ [64, 91, 92, 93, 94, 95] → σ2 k = σ1 k) (h2 : kM fTm σ1 σ2) (h3 : cdF p hi σ1 σ2) (h4 : atF 91 b σ1 σ2) (h5 : atF 92 b σ1 σ2) (hp : p0 ≤ p) (hb : b0 ≤ b) (hb2 : b < hB) : lwF b0 hB p0 hi σ σ2 := by
  obtain ⟨a1, a2, a3, a4, a5, a6⟩ := h
  refine ⟨off_tr a1 h1 (by decide) (by decide), kM_tr a2 h2 (by decide) (by decide), cdF_tr a3 h3 hp, tbF_tr a4 (fun j hj => ?_) (Nat.le_refl b0), by rw [h1 86 (by decide), a5], by rw [h1 87 (by decide), a6]⟩
  rw [h1 88 (by decide), h1 89 (by decide), h1 90 (by decide), h4 j (by omega), h5 j (by omega)]
  exact ⟨rfl, rfl, rfl, rfl, rfl⟩
theorem lwF_u88 {b : Nat} {v : Int32} (h : lwF b0 hB p0 hi σ σ1) (hb : b0 ≤ b) (hb2 : b < hB) : lwF b0 hB p0 hi σ (va_up σ1 88 (upd (σ1 88) b v)) := by
  obtain ⟨a1, a2, a3, a4, a5, a6⟩ := h
  refine ⟨off_up a1 (by decide), kM_c a2 (by decide), cdF_tr a3 (cdF_e rfl rfl) (Nat.le_refl _), tbF_tr a4 (fun j hj => ?_) (Nat.le_refl b0), a5, a6⟩
  have e : upd (σ1 88) b v j = σ1 88 j := pk_un (by omega)
  have z : ∀ c, c ≠ 88 → va_up σ1 88 (upd (σ1 88) b v) c = σ1 c := fun c hc => hva_ne hc
  refine ⟨?_, ?_, ?_, ?_, ?_⟩
  all_goals first | (rw [z _ (by decide)]) | (rw [hup_eq]; exact e)
theorem lwF_u89 {b : Nat} {v : Int32} (h : lwF b0 hB p0 hi σ σ1) (hb : b0 ≤ b) (hb2 : b < hB) : lwF b0 hB p0 hi σ (va_up σ1 89 (upd (σ1 89) b v)) := by
  obtain ⟨a1, a2, a3, a4, a5, a6⟩ := h
  refine ⟨off_up a1 (by decide), kM_c a2 (by decide), cdF_tr a3 (cdF_e rfl rfl) (Nat.le_refl _), tbF_tr a4 (fun j hj => ?_) (Nat.le_refl b0), a5, a6⟩
  have e : upd (σ1 89) b v j = σ1 89 j := pk_un (by omega)
  have z : ∀ c, c ≠ 89 → va_up σ1 89 (upd (σ1 89) b v) c = σ1 c := fun c hc => hva_ne hc
  refine ⟨?_, ?_, ?_, ?_, ?_⟩
  all_goals first | (rw [z _ (by decide)]) | (rw [hup_eq]; exact e)
theorem lwF_u90 {b : Nat} {v : Int32} (h : lwF b0 hB p0 hi σ σ1) (hb : b0 ≤ b) (hb2 : b < hB) : lwF b0 hB p0 hi σ (va_up σ1 90 (upd (σ1 90) b v)) := by
  obtain ⟨a1, a2, a3, a4, a5, a6⟩ := h
  refine ⟨off_up a1 (by decide), kM_c a2 (by decide), cdF_tr a3 (cdF_e rfl rfl) (Nat.le_refl _), tbF_tr a4 (fun j hj => ?_) (Nat.le_refl b0), a5, a6⟩
  have e : upd (σ1 90) b v j = σ1 90 j := pk_un (by omega)
  have z : ∀ c, c ≠ 90 → va_up σ1 90 (upd (σ1 90) b v) c = σ1 c := fun c hc => hva_ne hc
  refine ⟨?_, ?_, ?_, ?_, ?_⟩
  all_goals first | (rw [z _ (by decide)]) | (rw [hup_eq]; exact e)
end S93

