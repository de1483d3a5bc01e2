abbrev hR : Type := Nat → Nat → Option Nat
abbrev hS : Type := Nat → Nat → Int32
abbrev hT : Type := Nat → Nat → Int64
abbrev hSh : Type := List (Nat × Nat)
def hfl : List (List Bool) := [[true, true, true, true, false, false], [true, true, true, true, true, false], [true, true, true, true, false, false], [true, true, false], [true, true, false, false, false, false, false, false], [true, true, true, false, false], [true, true, true, true, true, false, false, false], [true, false], [true, true, true, true, false, false, false], [true, true, true, true, false, false, false], [true, true, true, true, true, true, true, false, false, false, false, false, false], [true, true, true, true, true, true, true, true, true, true, true, false], [false, true, false, true, false, true, true, true, true, true, false, false, false, false, false, false, false, false, false, false, false, true, true, true, true, true, true, true, true, true, true, true, true, true, true, true, true, false, true, true, true, true, true, false, true, true, true, false, true, true, false, true, true, false, true, true, true, false, true, true, false, false, true, true, true, true]]
theorem hcls_ok : ∀ (ci : Nat) (C : String) (T : u_T) (N : Nat), vwCl[ci]? = some (C, T, N) → (∀ w ∈ u_ws C T N, w ∈ hwd) ∧ ∃ ty : Nat → FieldType, (∀ k, k < N → parseFieldDescriptor (T k).2.2.1 = some (ty k)) ∧ (∀ a, a < N → ∀ b, b < N → a ≠ b → (T a).2.1 ≠ (T b).2.1) ∧ (hfl.getD ci []).length = N ∧ ∀ j, j < N → defaultValue (ty j) = if (hfl.getD ci [])[j]? = some true then .null else .int 0
  | 0, _, _, _, h => by cases h; exact ⟨hin_X0, tyX0, tyX0_ok, nmX0, rfl, by decide +kernel⟩
  | 1, _, _, _, h => by cases h; exact ⟨hin_X1, tyX1, tyX1_ok, nmX1, rfl, by decide +kernel⟩
  | 2, _, _, _, h => by cases h; exact ⟨hin_X2, tyX2, tyX2_ok, nmX2, rfl, by decide +kernel⟩
  | 3, _, _, _, h => by cases h; exact ⟨hin_X3, tyX3, tyX3_ok, nmX3, rfl, by decide +kernel⟩
  | 4, _, _, _, h => by cases h; exact ⟨hin_X4, tyX4, tyX4_ok, nmX4, rfl, by decide +kernel⟩
  | 5, _, _, _, h => by cases h; exact ⟨hin_X5, tyX5, tyX5_ok, nmX5, rfl, by decide +kernel⟩
  | 6, _, _, _, h => by cases h; exact ⟨hin_X6, tyX6, tyX6_ok, nmX6, rfl, by decide +kernel⟩
  | 7, _, _, _, h => by cases h; exact ⟨hin_X7, tyX7, tyX7_ok, nmX7, rfl, by decide +kernel⟩
  | 8, _, _, _, h => by cases h; exact ⟨hin_X8, tyX8, tyX8_ok, nmX8, rfl, by decide +kernel⟩
  | 9, _, _, _, h => by cases h; exact ⟨hin_X9, tyX9, tyX9_ok, nmX9, rfl, by decide +kernel⟩
  | 10, _, _, _, h => by cases h; exact ⟨hin_X10, tyX10, tyX10_ok, nmX10, rfl, by decide +kernel⟩
  | 11, _, _, _, h => by cases h; exact ⟨hin_X11, tyX11, tyX11_ok, nmX11, rfl, by decide +kernel⟩
  | 12, _, _, _, h => by cases h; exact ⟨hin_X12, tyX12, tyX12_ok, nmX12, rfl, by decide +kernel⟩
  | k + 13, _, _, _, h => by simp [vwCl] at h
def hkd (Sh : hSh) (k : Nat) : Nat × Nat := Sh.getD k (9, 0)
def hfg (ci j : Nat) : Option Bool := (hfl.getD ci [])[j]?
def hfv (ad : Nat → Nat) (r : hR) (σ : hS) (k j : Nat) (b : Bool) : Value := match b with
  | true => va_rf ((r k j).map ad)
  | false => .int (σ k j)
def hfs (ad : Nat → Nat) (r : hR) (σ : hS) (k : Nat) : Nat → List Bool → List Value
  | _, [] => []
  | j, b :: t => hfv ad r σ k j b :: hfs ad r σ k (j + 1) t
def hEk (ca : Nat → ClassId) (ad : Nat → Nat) (r : hR) (σ : hS) (τ : hT) (k : Nat) (q : Nat × Nat) : va_E := match q.1 with
  | 0 => .inr (q.2, hfs ad r σ k 0 (hfl.getD q.2 []))
  | 4 => .inl (ca 3, q.2, .inr (.inl (τ k)))
  | t + 1 => .inl (ca t, q.2, .inl (σ k))
def hWd (ca : Nat → ClassId) (ad : Nat → Nat) (r : hR) (σ : hS) (τ : hT) : Nat → hSh → va_W
  | _, [] => []
  | k, q :: t => (ad k, hEk ca ad r σ τ k q) :: hWd ca ad r σ τ (k + 1) t
theorem hkd_spec {Sh : hSh} {k t n : Nat} (h : hkd Sh k = (t, n)) (ht : t ≠ 9) : Sh[k]? = some (t, n) := by
  unfold hkd at h
  rw [List.getD_eq_getElem?_getD] at h
  cases hq : Sh[k]? with
  | none => rw [hq] at h; simp at h; exact absurd h.1.symm ht
  | some x => rw [hq] at h; simp at h; rw [h]
theorem hfs_get (ad : Nat → Nat) (r : hR) (σ : hS) (k : Nat) : ∀ (fl : List Bool) (j i : Nat), (hfs ad r σ k j fl)[i]? = (fl[i]?).map (hfv ad r σ k (j + i))
  | [], j, i => by simp [hfs]
  | b :: t, j, 0 => by simp [hfs]
  | b :: t, j, i + 1 => by
    rw [hfs, List.getElem?_cons_succ, hfs_get ad r σ k t (j + 1) i, List.getElem?_cons_succ, Nat.add_assoc, Nat.add_comm 1 i]
theorem hfs_len (ad : Nat → Nat) (r : hR) (σ : hS) (k : Nat) : ∀ (fl : List Bool) (j : Nat), (hfs ad r σ k j fl).length = fl.length
  | [], j => rfl
  | b :: t, j => by simp [hfs, hfs_len ad r σ k t (j + 1)]
theorem hWd_get (ca : Nat → ClassId) (ad : Nat → Nat) (r : hR) (σ : hS) (τ : hT) : ∀ (Sh : hSh) (k i : Nat), (hWd ca ad r σ τ k Sh)[i]? = (Sh[i]?).map (fun q => (ad (k + i), hEk ca ad r σ τ (k + i) q))
  | [], k, i => by simp [hWd]
  | b :: t, k, 0 => by simp [hWd]
  | b :: t, k, i + 1 => by
    rw [hWd, List.getElem?_cons_succ, hWd_get ca ad r σ τ t (k + 1) i, List.getElem?_cons_succ, Nat.add_assoc, Nat.add_comm 1 i]
theorem hWd_len (ca : Nat → ClassId) (ad : Nat → Nat) (r : hR) (σ : hS) (τ : hT) : ∀ (Sh : hSh) (k : Nat), (hWd ca ad r σ τ k Sh).length = Sh.length
  | [], k => rfl
  | b :: t, k => by simp [hWd, hWd_len ca ad r σ τ t (k + 1)]
theorem hfs_congr {ad : Nat → Nat} {r r' : hR} {σ σ' : hS} {k : Nat} (h1 : r k = r' k) (h2 : σ k = σ' k) : ∀ (fl : List Bool) (j : Nat), hfs ad r σ k j fl = hfs ad r' σ' k j fl
  | [], j => rfl
  | b :: t, j => by
    rw [hfs, hfs, hfs_congr h1 h2 t (j + 1)]
    congr 1
    cases b <;> simp [hfv, h1, h2]
theorem hEk_congr {ca : Nat → ClassId} {ad : Nat → Nat} {r r' : hR} {σ σ' : hS} {τ τ' : hT} {k : Nat} (h1 : r k = r' k) (h2 : σ k = σ' k) (h3 : τ k = τ' k) (q : Nat × Nat) : hEk ca ad r σ τ k q = hEk ca ad r' σ' τ' k q := by
  unfold hEk
  rw [hfs_congr h1 h2, h2, h3]
theorem hWd_upd {ca : Nat → ClassId} {ad : Nat → Nat} {r r' : hR} {σ σ' : hS} {τ τ' : hT} {Sh : hSh} {k : Nat} {q : Nat × Nat} {e : va_E} (h : Sh[k]? = some q) (h1 : ∀ i, i ≠ k → r i = r' i) (h2 : ∀ i, i ≠ k → σ i = σ' i) (h3 : ∀ i, i ≠ k → τ i = τ' i) (he : e = hEk ca ad r' σ' τ' k q) : (hWd ca ad r σ τ 0 Sh).set k (ad k, e) = hWd ca ad r' σ' τ' 0 Sh := by
  apply List.ext_getElem?
  intro i
  rw [List.getElem?_set, hWd_get, hWd_get, hWd_len]
  have hlt : k < Sh.length := (List.getElem?_eq_some_iff.mp h).1
  by_cases hi : k = i
  · subst hi
    rw [if_pos rfl, if_pos hlt, h, he]
    simp
  · rw [if_neg hi]
    simp only [Nat.zero_add]
    rw [show (fun q => (ad i, hEk ca ad r σ τ i q)) = (fun q => (ad i, hEk ca ad r' σ' τ' i q)) from by
      funext q; rw [hEk_congr (h1 i (Ne.symm hi)) (h2 i (Ne.symm hi)) (h3 i (Ne.symm hi))]]
theorem hup_ne {α : Type} {f : Nat → α} {k : Nat} {v : α} : ∀ i, i ≠ k → f i = va_up f k v i := fun i h => by simp [va_up, h]
theorem hup_eq {α : Type} {f : Nat → α} {k : Nat} {v : α} : va_up f k v k = v := by simp [va_up]
theorem hWd_seti {ca : Nat → ClassId} {ad : Nat → Nat} {r : hR} {σ : hS} {τ : hT} {Sh : hSh} {k t n : Nat} {f : Nat → Int32} (h : Sh[k]? = some (t + 1, n)) (ht : t ≠ 3) : (hWd ca ad r σ τ 0 Sh).set k (ad k, .inl (ca t, n, .inl f)) = hWd ca ad r (va_up σ k f) τ 0 Sh := by
  refine hWd_upd h (fun _ _ => rfl) hup_ne (fun _ _ => rfl) ?_
  rcases t with _ | _ | _ | _ | t <;> simp [hEk, hup_eq] at ht ⊢
theorem hWd_setl {ca : Nat → ClassId} {ad : Nat → Nat} {r : hR} {σ : hS} {τ : hT} {Sh : hSh} {k n : Nat} {f : Nat → Int64} (h : Sh[k]? = some (4, n)) : (hWd ca ad r σ τ 0 Sh).set k (ad k, .inl (ca 3, n, .inr (.inl f))) = hWd ca ad r σ (va_up τ k f) 0 Sh := by
  refine hWd_upd h (fun _ _ => rfl) (fun _ _ => rfl) hup_ne ?_
  simp [hEk, hup_eq]
theorem hfs_setf {ad : Nat → Nat} {r : hR} {σ : hS} {k j : Nat} {fl : List Bool} {x : Int32} (hf : fl[j]? = some false) : (hfs ad r σ k 0 fl).set j (.int x) = hfs ad r (va_up σ k (upd (σ k) j x)) k 0 fl := by
  apply List.ext_getElem?
  intro i
  rw [List.getElem?_set, hfs_get, hfs_get, hfs_len]
  have hlt : j < fl.length := (List.getElem?_eq_some_iff.mp hf).1
  by_cases hi : j = i
  · subst hi
    rw [if_pos rfl, if_pos hlt, hf]
    simp [hfv, hup_eq, upd]
  · rw [if_neg hi]
    congr 1
    funext b
    cases b <;> simp [hfv, hup_eq, upd, Ne.symm hi]
theorem hfs_setr {ad : Nat → Nat} {r : hR} {σ : hS} {k j : Nat} {fl : List Bool} {x : Option Nat} (hf : fl[j]? = some true) : (hfs ad r σ k 0 fl).set j (va_rf (x.map ad)) = hfs ad (va_up r k (va_up (r k) j x)) σ k 0 fl := by
  apply List.ext_getElem?
  intro i
  rw [List.getElem?_set, hfs_get, hfs_get, hfs_len]
  have hlt : j < fl.length := (List.getElem?_eq_some_iff.mp hf).1
  by_cases hi : j = i
  · subst hi
    rw [if_pos rfl, if_pos hlt, hf]
    simp [hfv, va_up]
  · rw [if_neg hi]
    congr 1
    funext b
    cases b <;> simp [hfv, va_up, Ne.symm hi]
theorem hWd_setf {ca : Nat → ClassId} {ad : Nat → Nat} {r : hR} {σ : hS} {τ : hT} {Sh : hSh} {k ci j : Nat} {x : Int32} (h : Sh[k]? = some (0, ci)) (hf : hfg ci j = some false) : (hWd ca ad r σ τ 0 Sh).set k (ad k, .inr (ci, (hfs ad r σ k 0 (hfl.getD ci [])).set j (.int x))) = hWd ca ad r (va_up σ k (upd (σ k) j x)) τ 0 Sh := by
  refine hWd_upd h (fun _ _ => rfl) hup_ne (fun _ _ => rfl) ?_
  rw [hfs_setf hf]
  rfl
theorem hWd_setr {ca : Nat → ClassId} {ad : Nat → Nat} {r : hR} {σ : hS} {τ : hT} {Sh : hSh} {k ci j : Nat} {x : Option Nat} (h : Sh[k]? = some (0, ci)) (hf : hfg ci j = some true) : (hWd ca ad r σ τ 0 Sh).set k (ad k, .inr (ci, (hfs ad r σ k 0 (hfl.getD ci [])).set j (va_rf (x.map ad)))) = hWd ca ad (va_up r k (va_up (r k) j x)) σ τ 0 Sh := by
  refine hWd_upd h hup_ne (fun _ _ => rfl) (fun _ _ => rfl) ?_
  rw [hfs_setr hf]
  rfl
/-! locals by place -/
def hasc : Nat → List (Option Value) → List (Nat × Value)
  | _, [] => []
  | k, some v :: t => (k, v) :: hasc (k + 1) t
  | k, none :: t => hasc (k + 1) t
def hloc : List Value → Nat → List (Option Value)
  | [], n => List.replicate n none
  | v :: t, n => if v.category = 2 then some v :: none :: hloc t (n - 2) else some v :: hloc t (n - 1)
def hgl : List (Option Value) → Nat → Option Value
  | [], _ => none
  | v :: _, 0 => v
  | _ :: t, i + 1 => hgl t i
def hst : List (Option Value) → Nat → Option Value → List (Option Value)
  | [], _, _ => []
  | _ :: t, 0, v => v :: t
  | a :: t, i + 1, v => a :: hst t i v
def hokc (lv : List (Option Value)) : Nat → Bool
  | 0 => true
  | i + 1 => match hgl lv i with
    | some v => !(v.category == 2)
    | none => true
theorem hasc_nil : ∀ (n k : Nat), hasc k (List.replicate n none) = []
  | 0, k => rfl
  | n + 1, k => by rw [List.replicate_succ, hasc, hasc_nil n (k + 1)]
theorem hasc_hloc : ∀ (as : List Value) (n k : Nat), hasc k (hloc as n) = lv_args k as
  | [], n, k => hasc_nil n k
  | v :: t, n, k => by
    unfold hloc lv_args
    by_cases h : v.category = 2
    · rw [if_pos h, if_pos h, hasc, hasc, hasc_hloc t (n - 2) (k + 2)]
    · rw [if_neg h, if_neg h, hasc, hasc_hloc t (n - 1) (k + 1)]
theorem hasc_mem : ∀ (lv : List (Option Value)) (k i : Nat) (v : Value), (i, v) ∈ hasc k lv ↔ k ≤ i ∧ hgl lv (i - k) = some v
  | [], k, i, v => by simp [hasc, hgl]
  | some w :: t, k, i, v => by
    rw [hasc, List.mem_cons, hasc_mem t (k + 1) i v]
    constructor
    · rintro (h | ⟨h1, h2⟩)
      · cases h; simp [hgl]
      · refine ⟨by omega, ?_⟩
        rw [show i - k = (i - (k + 1)) + 1 by omega, hgl]; exact h2
    · rintro ⟨h1, h2⟩
      by_cases e : i = k
      · subst e; simp [hgl] at h2; exact Or.inl (by rw [h2])
      · right
        refine ⟨by omega, ?_⟩
        rw [show i - k = (i - (k + 1)) + 1 by omega, hgl] at h2; exact h2
  | none :: t, k, i, v => by
    rw [hasc, hasc_mem t (k + 1) i v]
    constructor
    · rintro ⟨h1, h2⟩
      refine ⟨by omega, ?_⟩
      rw [show i - k = (i - (k + 1)) + 1 by omega, hgl]; exact h2
    · rintro ⟨h1, h2⟩
      by_cases e : i = k
      · subst e; simp [hgl] at h2
      · refine ⟨by omega, ?_⟩
        rw [show i - k = (i - (k + 1)) + 1 by omega, hgl] at h2; exact h2
theorem hgl_hst : ∀ (lv : List (Option Value)) (i j : Nat) (v : Option Value), hgl (hst lv i v) j = if j = i ∧ i < lv.length then v else hgl lv j
  | [], i, j, v => by simp [hst, hgl]
  | a :: t, 0, 0, v => by simp [hst, hgl]
  | a :: t, 0, j + 1, v => by simp [hst, hgl]
  | a :: t, i + 1, 0, v => by simp [hst, hgl]
  | a :: t, i + 1, j + 1, v => by simp [hst, hgl, hgl_hst t i j v]
theorem hgl_at {ls : Array Slot} {nL : Nat} {lv : List (Option Value)} (h : lv_has ls nL (hasc 0 lv)) {i : Nat} {v : Value} (hg : hgl lv i = some v) : ls[i]? = some (.val v) := h.2.2 (i, v) ((hasc_mem lv 0 i v).mpr ⟨Nat.zero_le _, hg⟩)
theorem lv_has.mono {ls : Array Slot} {nL : Nat} {l l' : List (Nat × Value)} (h : lv_has ls nL l) (hs : ∀ q ∈ l', q ∈ l) : lv_has ls nL l' := ⟨h.1, h.2.1, fun q hq => h.2.2 q (hs q hq)⟩
theorem hst1 {ls : Array Slot} {nL i : Nat} {lv : List (Option Value)} {v : Value} (hok : hokc lv i = true) (h : lv_has ls nL ((i, v) :: (hasc 0 lv).filter (fun q => !(q.1 == i) && !(q.1 + 1 == i && q.2.category == 2)))) : lv_has ls nL (hasc 0 (hst lv i (some v))) := by
  refine h.mono ?_
  rintro ⟨j, w⟩ hq
  rw [hasc_mem, hgl_hst] at hq
  obtain ⟨-, hq⟩ := hq
  rw [Nat.sub_zero] at hq
  by_cases e : j = i ∧ i < lv.length
  · rw [if_pos e] at hq
    cases hq
    rw [e.1]
    exact List.mem_cons_self
  · rw [if_neg e] at hq
    have hji : j ≠ i := by
      intro e2
      apply e
      refine ⟨e2, ?_⟩
      subst e2
      clear h hok e
      induction lv generalizing j with
      | nil => simp [hgl] at hq
      | cons a t ih => cases j with
        | zero => simp
        | succ j => simp [hgl] at hq; have := ih j hq; simp; omega
    refine List.mem_cons_of_mem _ (List.mem_filter.mpr ⟨(hasc_mem lv 0 j w).mpr ⟨Nat.zero_le _, hq⟩, ?_⟩)
    simp only [Bool.and_eq_true, Bool.not_eq_true', beq_eq_false_iff_ne, ne_eq]
    refine ⟨hji, ?_⟩
    rw [Bool.and_eq_false_iff]
    by_cases e3 : j + 1 = i
    · right
      subst e3
      simp only [hokc, hq] at hok
      simpa using hok
    · left
      simpa using e3
theorem hst2 {ls : Array Slot} {nL i : Nat} {lv : List (Option Value)} {v : Value} (hok : hokc lv i = true) (h : lv_has ls nL ((i, v) :: (hasc 0 lv).filter (fun q => !(q.1 == i) && (!(q.1 == i + 1) && !(q.1 + 1 == i && q.2.category == 2))))) : lv_has ls nL (hasc 0 (hst (hst lv i (some v)) (i + 1) none)) := by
  refine h.mono ?_
  rintro ⟨j, w⟩ hq
  rw [hasc_mem, hgl_hst] at hq
  obtain ⟨-, hq⟩ := hq
  rw [Nat.sub_zero] at hq
  have hlen : ∀ (l : List (Option Value)) (k : Nat) (u : Value), hgl l k = some u → k < l.length := by
    intro l
    induction l with
    | nil => intro k u h; simp [hgl] at h
    | cons a t ih => intro k u h; cases k with
      | zero => simp
      | succ k => simp [hgl] at h; have := ih k u h; simp; omega
  by_cases e : j = i + 1 ∧ i + 1 < (hst lv i (some v)).length
  · rw [if_pos e] at hq; cases hq
  · rw [if_neg e] at hq
    have hj1 : j ≠ i + 1 := fun e2 => e ⟨e2, by rw [← e2]; exact hlen _ _ _ hq⟩
    rw [hgl_hst] at hq
    by_cases e : j = i ∧ i < lv.length
    · rw [if_pos e] at hq
      cases hq
      rw [e.1]
      exact List.mem_cons_self
    · rw [if_neg e] at hq
      have hji : j ≠ i := fun e2 => e ⟨e2, by rw [← e2]; exact hlen _ _ _ hq⟩
      refine List.mem_cons_of_mem _ (List.mem_filter.mpr ⟨(hasc_mem lv 0 j w).mpr ⟨Nat.zero_le _, hq⟩, ?_⟩)
      simp only [Bool.and_eq_true, Bool.not_eq_true', beq_eq_false_iff_ne, ne_eq]
      refine ⟨hji, hj1, ?_⟩
      rw [Bool.and_eq_false_iff]
      by_cases e3 : j + 1 = i
      · right
        subst e3
        simp only [hokc, hq] at hok
        simpa using hok
      · left
        simpa using e3

abbrev hGl : Type := Launch × Nat × va_G × (Nat → ClassId) × (Nat → Nat) × (Nat → Nat) × (Nat → Nat) × (Nat × Nat × (Nat → Int32))
def hgL (G : hGl) : Launch := G.1
def hgB (G : hGl) : Nat := G.2.1
def hgD (G : hGl) : va_G := G.2.2.1
def hgC (G : hGl) : Nat → ClassId := G.2.2.2.1
def hgA (G : hGl) : Nat → Nat := G.2.2.2.2.1
def hgK (G : hGl) : Nat → Nat := G.2.2.2.2.2.1
def hgV (G : hGl) : Nat → Nat := G.2.2.2.2.2.2.1
def hgX (G : hGl) : Nat × Nat × (Nat → Int32) := G.2.2.2.2.2.2.2
abbrev hPo : Type := Option Value → hR → hS → hT → Prop
abbrev hMe : Type := Room × Nat × Nat × MethodName × ByteArray × Nat × Option FieldType × hSh × Option Nat × hPo
def hmR (M : hMe) : Room := M.1
def hmc (M : hMe) : Nat := M.2.1
def hms (M : hMe) : Nat := M.2.2.1
def hmY (M : hMe) : MethodName := M.2.2.2.1
def hmB (M : hMe) : ByteArray := M.2.2.2.2.1
def hmN (M : hMe) : Nat := M.2.2.2.2.2.1
def hmT (M : hMe) : Option FieldType := M.2.2.2.2.2.2.1
def hmE (M : hMe) : hSh := M.2.2.2.2.2.2.2.1
def hmZ (M : hMe) : Option Nat := M.2.2.2.2.2.2.2.2.1
def hmQ (M : hMe) : hPo := M.2.2.2.2.2.2.2.2.2
def hTys (ca : Nat → ClassId) : List (ClassId × FieldType) := [(ca 0, .int), (ca 1, .byte), (ca 2, .boolean), (ca 3, .long)]
def hs0 : String := "house hears motionprice eats  glut  votes rots  salt  odds  seed  if    then  else  fish  all   day   hungercoins fear  saltedate   which "
def hs1 : String := ";=+-*/<()"
def hby : List (List Int32) := [hs0.toList.map (fun c => Int32.ofNat c.toNat), hs1.toList.map (fun c => Int32.ofNat c.toNat)]
def hFr (G : hGl) : Nat → Prop := fun q => hgB G ≤ q
def hIn (G : hGl) (U : State) : Prop := hgB G ≤ U.heap.size ∧ va_K (hgD G) vwCl (hTys (hgC G)) U ∧ vk_S 2 [138, 9] hby (hgK G) (hgV G) (hFr G) U U.heap ∧ vk_R RX9 91 hs0 (hgK G 0) U ∧ vk_R RX9 76 hs1 (hgK G 1) U ∧ va_Z "java/lang/String" "COMPACT_STRINGS" "Z" (.int 1) (hFr G) U U.heap ∧ va_Zq "jdk/internal/util/Preconditions" "SIOOBE_FORMATTER" "Ljava/util/function/BiFunction;" (hFr G) U U.heap
def hZs (G : hGl) (M : hMe) (U : State) : Prop := ∀ n, hmZ M = some n → U.heap.size = hgB G + n ∧ (∀ w ∈ hnw, va_Nw w U) ∧ va_X (hgX G).1 (hgX G).2.1 (hgX G).2.2 U U.heap ∧ (hgX G).1 < hgB G
def hHp (G : hGl) (Sh : hSh) (r : hR) (σ : hS) (τ : hT) (H : Heap) : Prop := va_P (hgD G) vwCl (hWd (hgC G) (hgA G) r σ τ 0 Sh) H ∧ va_D (hFr G) (hWd (hgC G) (hgA G) r σ τ 0 Sh)
def hQc (G : hGl) (E : hSh) (Q : hPo) : Array Value → State → Outcome → State → Prop := fun _ st o t => (∃ (v : Option Value) (r : hR) (σ : hS) (τ : hT), o = .returned v ∧ Q v r σ τ ∧ hHp G E r σ τ t.heap) ∧ va_F (hFr G) st t
def hCx (G : hGl) (M : hMe) (p : Program) (s : State) (m : MethodId) (args : Array Value) (meth : Method) (c : Code) : Prop :=
  p.tables.exec = Jvm.exec ∧ c.code = hmB M ∧ meth.sig.returnType = hmT M ∧ c.maxLocals = hmN M ∧ s.vm.findClass (hmY M).cls = some m.cls ∧ (∀ w ∈ hwd, w.before args s = true) ∧ meth.locks = false ∧ hIn G s ∧ meth.name = (hmY M).name ∧ hZs G M s
def hV (G : hGl) (M : hMe) (ck cn : Nat) (Sh : hSh) (pc : Nat) (lv : List (Option Value)) (st : List Value) (r : hR) (σ : hS) (τ : hT) : Prop :=
  ∀ (p : Program) (e : Env) (s : State) (m : MethodId) (args : Array Value) (below : List Frame) (meth : Method) (c : Code), hCx G M p s m args meth c →
    ∀ (H : Heap) (locs : List Loc) (ls : Array Slot), hHp G Sh r σ τ H → va_S (hFr G) s.heap H locs → lv_has ls (hmN M) (hasc 0 lv) →
      W p (hgL G) e (hmR M) s m args below meth c H locs ck cn (MQ below (hQc G (hmE M) (hmQ M)) args s (hmc M) (hms M) (hFr G)) (F0 m pc ls st)
def hCal (G : hGl) (M : hMe) (as : List Value) (Sh : hSh) (r : hR) (σ : hS) (τ : hT) : Prop :=
  Met (hgL G) (hmY M) (Cond.code (hmY M) (hmB M) (hmN M) (hmT M) :: hwd) (hmR M) (va_Pc as (fun U => hIn G U ∧ hZs G M U ∧ hHp G Sh r σ τ U.heap)) (hQc G (hmE M) (hmQ M)) (hmc M) (hms M) (hFr G)
section HV
variable {G : hGl} {M : hMe} {ck cn : Nat} {Sh : hSh} {pc : Nat} {lv : List (Option Value)} {st : List Value} {r : hR} {σ : hS} {τ : hT}
theorem hv_enter {as : List Value} (hy : plainName (hmY M).cls = true) (hn : Nat.ble (lg_sl as).length (hmN M) = true) (h : hV G M 0 0 Sh 0 (hloc as (hmN M)) [] r σ τ) : hCal G M as Sh r σ τ := by
  refine Met.ofW (cc := hmB M) (maxL := hmN M) (ret := hmT M) hy rfl ?_
  intro p e s m args below meth c s₁ B hml hv
  obtain ⟨rfl, hI, hz, hH⟩ := hv
  have hts := atoms_spec (ws := Cond.code (hmY M) (hmB M) (hmN M) (hmT M) :: hwd) B.pre
  have hl := lv_entry as (n := hmN M) (Nat.le_of_ble_eq_true hn)
  rw [lg_entry_eq]
  exact h p e s m _ below meth c ⟨B.exec, B.bytes, B.returns, hml, findClass_of_methodNamed B.named, fun w hw => hts w (List.mem_cons_of_mem _ hw), B.notSynchronized, hI, (name_of_methodNamed B.named B.method).1, hz⟩ s.heap [] _ hH va_S.rf (by rw [hasc_hloc]; exact hl)
theorem hv_loc {lv' : List (Option Value)} (hs : ∀ q ∈ hasc 0 lv', q ∈ hasc 0 lv) (h : hV G M ck cn Sh pc lv' st r σ τ) : hV G M ck cn Sh pc lv st r σ τ :=
  fun p e s m args below meth c C H locs ls hH hS hl => h p e s m args below meth c C H locs ls hH hS (hl.mono hs)
theorem hv_eq {lv' : List (Option Value)} {st' : List Value} {r' : hR} {σ' : hS} {τ' : hT} (h1 : lv = lv') (h2 : st = st') (h3 : r = r') (h4 : σ = σ') (h5 : τ = τ') (h : hV G M ck cn Sh pc lv' st' r' σ' τ') : hV G M ck cn Sh pc lv st r σ τ := by
  subst h1; subst h2; subst h3; subst h4; subst h5; exact h
theorem hv_str {st' : List Value} (h2 : st = st') (h : hV G M ck cn Sh pc lv st' r σ τ) : hV G M ck cn Sh pc lv st r σ τ := by
  subst h2; exact h
theorem hv_iconst {n : Int} {v : Int32} (hd : decode (hmB M) pc = .ok (.iconst n, 1)) (hv : Int32.ofInt n = v) (h : hV G M ck cn Sh (pc + 1) lv (.int v :: st) r σ τ) : hV G M ck cn Sh pc lv (st) r σ τ :=
  fun p e s m args below meth c C H locs ls hH hS hl => lv_iconst C.1 C.2.1 hd hv (h p e s m args below meth c C H locs ls hH hS hl)
theorem hv_bipush {n : Int} {v : Int32} (hd : decode (hmB M) pc = .ok (.bipush n, 2)) (hv : (Int8.ofInt n).toInt32 = v) (h : hV G M ck cn Sh (pc + 2) lv (.int v :: st) r σ τ) : hV G M ck cn Sh pc lv (st) r σ τ :=
  fun p e s m args below meth c C H locs ls hH hS hl => lv_bipush C.1 C.2.1 hd hv (h p e s m args below meth c C H locs ls hH hS hl)
theorem hv_sipush {n : Int} {v : Int32} (hd : decode (hmB M) pc = .ok (.sipush n, 3)) (hv : (Int16.ofInt n).toInt32 = v) (h : hV G M ck cn Sh (pc + 3) lv (.int v :: st) r σ τ) : hV G M ck cn Sh pc lv (st) r σ τ :=
  fun p e s m args below meth c C H locs ls hH hS hl => lv_sipush C.1 C.2.1 hd hv (h p e s m args below meth c C H locs ls hH hS hl)
theorem hv_lconst {n : Fin 2} {v : Int64} (hd : decode (hmB M) pc = .ok (.lconst n, 1)) (hv : Int64.ofNat (n : Nat) = v) (h : hV G M ck cn Sh (pc + 1) lv (.long v :: st) r σ τ) : hV G M ck cn Sh pc lv (st) r σ τ :=
  fun p e s m args below meth c C H locs ls hH hS hl => lv_lconst C.1 C.2.1 hd hv (h p e s m args below meth c C H locs ls hH hS hl)
theorem hv_iload_n {k : Fin 4} {x : Int32} (hd : decode (hmB M) pc = .ok (.iload_n k, 1)) (hg : hgl lv k = some (.int x)) (h : hV G M ck cn Sh (pc + 1) lv (.int x :: st) r σ τ) : hV G M ck cn Sh pc lv st r σ τ :=
  fun p e s m args below meth c C H locs ls hH hS hl => lv_iload_n C.1 C.2.1 hd rfl (hgl_at hl hg) (h p e s m args below meth c C H locs ls hH hS hl)
theorem hv_iload {k : Nat} {x : Int32} (hd : decode (hmB M) pc = .ok (.iload k, 2)) (hg : hgl lv k = some (.int x)) (h : hV G M ck cn Sh (pc + 2) lv (.int x :: st) r σ τ) : hV G M ck cn Sh pc lv st r σ τ :=
  fun p e s m args below meth c C H locs ls hH hS hl => lv_iload C.1 C.2.1 hd (hgl_at hl hg) (h p e s m args below meth c C H locs ls hH hS hl)
theorem hv_lload_n {k : Fin 4} {x : Int64} (hd : decode (hmB M) pc = .ok (.lload_n k, 1)) (hg : hgl lv k = some (.long x)) (h : hV G M ck cn Sh (pc + 1) lv (.long x :: st) r σ τ) : hV G M ck cn Sh pc lv st r σ τ :=
  fun p e s m args below meth c C H locs ls hH hS hl => lv_lload_n C.1 C.2.1 hd rfl (hgl_at hl hg) (h p e s m args below meth c C H locs ls hH hS hl)
theorem hv_lload {k : Nat} {x : Int64} (hd : decode (hmB M) pc = .ok (.lload k, 2)) (hg : hgl lv k = some (.long x)) (h : hV G M ck cn Sh (pc + 2) lv (.long x :: st) r σ τ) : hV G M ck cn Sh pc lv st r σ τ :=
  fun p e s m args below meth c C H locs ls hH hS hl => lv_lload C.1 C.2.1 hd (hgl_at hl hg) (h p e s m args below meth c C H locs ls hH hS hl)
theorem hv_aload_n {k : Fin 4} {x : Nat} (hd : decode (hmB M) pc = .ok (.aload_n k, 1)) (hg : hgl lv k = some (.ref x)) (h : hV G M ck cn Sh (pc + 1) lv (.ref x :: st) r σ τ) : hV G M ck cn Sh pc lv st r σ τ :=
  fun p e s m args below meth c C H locs ls hH hS hl => lv_aload_n C.1 C.2.1 hd rfl (hgl_at hl hg) (h p e s m args below meth c C H locs ls hH hS hl)
theorem hv_aload {k : Nat} {x : Nat} (hd : decode (hmB M) pc = .ok (.aload k, 2)) (hg : hgl lv k = some (.ref x)) (h : hV G M ck cn Sh (pc + 2) lv (.ref x :: st) r σ τ) : hV G M ck cn Sh pc lv st r σ τ :=
  fun p e s m args below meth c C H locs ls hH hS hl => lv_aload C.1 C.2.1 hd (hgl_at hl hg) (h p e s m args below meth c C H locs ls hH hS hl)
theorem hv_istore_n {k : Fin 4} {x : Int32} (hd : decode (hmB M) pc = .ok (.istore_n k, 1)) (hb : Nat.blt k (hmN M) = true) (ho : hokc lv k = true) (h : hV G M ck cn Sh (pc + 1) (hst lv k (some (.int x))) st r σ τ) : hV G M ck cn Sh pc lv (.int x :: st) r σ τ :=
  fun p e s m args below meth c C H locs ls hH hS hl => lv_istore_n C.1 C.2.1 hd rfl hl (Nat.le_of_ble_eq_true hb) rfl (fun ls' hl' => h p e s m args below meth c C H locs ls' hH hS (hst1 ho hl'))
theorem hv_istore {k : Nat} {x : Int32} (hd : decode (hmB M) pc = .ok (.istore k, 2)) (hb : Nat.blt k (hmN M) = true) (ho : hokc lv k = true) (h : hV G M ck cn Sh (pc + 2) (hst lv k (some (.int x))) st r σ τ) : hV G M ck cn Sh pc lv (.int x :: st) r σ τ :=
  fun p e s m args below meth c C H locs ls hH hS hl => lv_istore C.1 C.2.1 hd hl (Nat.le_of_ble_eq_true hb) rfl (fun ls' hl' => h p e s m args below meth c C H locs ls' hH hS (hst1 ho hl'))
theorem hv_astore_n {k : Fin 4} {x : Nat} (hd : decode (hmB M) pc = .ok (.astore_n k, 1)) (hb : Nat.blt k (hmN M) = true) (ho : hokc lv k = true) (h : hV G M ck cn Sh (pc + 1) (hst lv k (some (.ref x))) st r σ τ) : hV G M ck cn Sh pc lv (.ref x :: st) r σ τ :=
  fun p e s m args below meth c C H locs ls hH hS hl => lv_astore_n C.1 C.2.1 hd rfl hl (Nat.le_of_ble_eq_true hb) rfl (fun ls' hl' => h p e s m args below meth c C H locs ls' hH hS (hst1 ho hl'))
theorem hv_astore {k : Nat} {x : Nat} (hd : decode (hmB M) pc = .ok (.astore k, 2)) (hb : Nat.blt k (hmN M) = true) (ho : hokc lv k = true) (h : hV G M ck cn Sh (pc + 2) (hst lv k (some (.ref x))) st r σ τ) : hV G M ck cn Sh pc lv (.ref x :: st) r σ τ :=
  fun p e s m args below meth c C H locs ls hH hS hl => lv_astore C.1 C.2.1 hd hl (Nat.le_of_ble_eq_true hb) rfl (fun ls' hl' => h p e s m args below meth c C H locs ls' hH hS (hst1 ho hl'))
theorem hv_lstore_n {k : Fin 4} {x : Int64} (hd : decode (hmB M) pc = .ok (.lstore_n k, 1)) (hb : Nat.blt (k + 1) (hmN M) = true) (ho : hokc lv k = true) (h : hV G M ck cn Sh (pc + 1) (hst (hst lv k (some (.long x))) (k + 1) none) st r σ τ) : hV G M ck cn Sh pc lv (.long x :: st) r σ τ :=
  fun p e s m args below meth c C H locs ls hH hS hl => lv_lstore_n C.1 C.2.1 hd rfl hl (Nat.le_of_ble_eq_true hb) rfl (fun ls' hl' => h p e s m args below meth c C H locs ls' hH hS (hst2 ho hl'))
theorem hv_lstore {k : Nat} {x : Int64} (hd : decode (hmB M) pc = .ok (.lstore k, 2)) (hb : Nat.blt (k + 1) (hmN M) = true) (ho : hokc lv k = true) (h : hV G M ck cn Sh (pc + 2) (hst (hst lv k (some (.long x))) (k + 1) none) st r σ τ) : hV G M ck cn Sh pc lv (.long x :: st) r σ τ :=
  fun p e s m args below meth c C H locs ls hH hS hl => lv_lstore C.1 C.2.1 hd hl (Nat.le_of_ble_eq_true hb) rfl (fun ls' hl' => h p e s m args below meth c C H locs ls' hH hS (hst2 ho hl'))
theorem hasc_at {lv : List (Option Value)} {i : Nat} {v : Value} (h : hgl lv i = some v) : ∃ k : Nat, (hasc 0 lv)[k]? = some (i, v) := List.getElem?_of_mem ((hasc_mem lv 0 i v).mpr ⟨Nat.zero_le _, h⟩)
theorem hv_iinc {k : Nat} {n : Int} {x v : Int32} (hd : decode (hmB M) pc = .ok (.iinc k n, 3)) (hg : hgl lv k = some (.int x)) (hv : x + Int32.ofInt n = v) (hb : Nat.blt k (hmN M) = true) (ho : hokc lv k = true) (h : hV G M ck cn Sh (pc + 3) (hst lv k (some (.int v))) st r σ τ) : hV G M ck cn Sh pc lv st r σ τ := by
  intro p e s m args below meth c C H locs ls hH hS hl
  obtain ⟨i, hi⟩ := hasc_at hg
  exact lv_iinc C.1 C.2.1 hd hl hi hv (Nat.le_of_ble_eq_true hb) rfl (fun ls' hl' => h p e s m args below meth c C H locs ls' hH hS (hst1 ho hl'))
theorem hv_iadd {x y : Int32} (hd : decode (hmB M) pc = .ok (.iadd, 1)) (h : hV G M ck cn Sh (pc + 1) lv (.int (x + y) :: st) r σ τ) : hV G M ck cn Sh pc lv (.int y :: .int x :: st) r σ τ :=
  fun p e s m args below meth c C H locs ls hH hS hl => lv_iadd C.1 C.2.1 hd (h p e s m args below meth c C H locs ls hH hS hl)
theorem hv_isub {x y : Int32} (hd : decode (hmB M) pc = .ok (.isub, 1)) (h : hV G M ck cn Sh (pc + 1) lv (.int (x - y) :: st) r σ τ) : hV G M ck cn Sh pc lv (.int y :: .int x :: st) r σ τ :=
  fun p e s m args below meth c C H locs ls hH hS hl => lv_isub C.1 C.2.1 hd (h p e s m args below meth c C H locs ls hH hS hl)
theorem hv_imul {x y : Int32} (hd : decode (hmB M) pc = .ok (.imul, 1)) (h : hV G M ck cn Sh (pc + 1) lv (.int (x * y) :: st) r σ τ) : hV G M ck cn Sh pc lv (.int y :: .int x :: st) r σ τ :=
  fun p e s m args below meth c C H locs ls hH hS hl => lv_imul C.1 C.2.1 hd (h p e s m args below meth c C H locs ls hH hS hl)
theorem hv_iand {x y : Int32} (hd : decode (hmB M) pc = .ok (.iand, 1)) (h : hV G M ck cn Sh (pc + 1) lv (.int (x &&& y) :: st) r σ τ) : hV G M ck cn Sh pc lv (.int y :: .int x :: st) r σ τ :=
  fun p e s m args below meth c C H locs ls hH hS hl => lv_iand C.1 C.2.1 hd (h p e s m args below meth c C H locs ls hH hS hl)
theorem hv_ior {x y : Int32} (hd : decode (hmB M) pc = .ok (.ior, 1)) (h : hV G M ck cn Sh (pc + 1) lv (.int (x ||| y) :: st) r σ τ) : hV G M ck cn Sh pc lv (.int y :: .int x :: st) r σ τ :=
  fun p e s m args below meth c C H locs ls hH hS hl => lv_ior C.1 C.2.1 hd (h p e s m args below meth c C H locs ls hH hS hl)
theorem hv_ixor {x y : Int32} (hd : decode (hmB M) pc = .ok (.ixor, 1)) (h : hV G M ck cn Sh (pc + 1) lv (.int (x ^^^ y) :: st) r σ τ) : hV G M ck cn Sh pc lv (.int y :: .int x :: st) r σ τ :=
  fun p e s m args below meth c C H locs ls hH hS hl => lv_ixor C.1 C.2.1 hd (h p e s m args below meth c C H locs ls hH hS hl)
theorem hv_ishl {x y : Int32} (hd : decode (hmB M) pc = .ok (.ishl, 1)) (h : hV G M ck cn Sh (pc + 1) lv (.int (x <<< (y &&& 31)) :: st) r σ τ) : hV G M ck cn Sh pc lv (.int y :: .int x :: st) r σ τ :=
  fun p e s m args below meth c C H locs ls hH hS hl => lv_ishl C.1 C.2.1 hd (h p e s m args below meth c C H locs ls hH hS hl)
theorem hv_ishr {x y : Int32} (hd : decode (hmB M) pc = .ok (.ishr, 1)) (h : hV G M ck cn Sh (pc + 1) lv (.int (x >>> (y &&& 31)) :: st) r σ τ) : hV G M ck cn Sh pc lv (.int y :: .int x :: st) r σ τ :=
  fun p e s m args below meth c C H locs ls hH hS hl => lv_ishr C.1 C.2.1 hd (h p e s m args below meth c C H locs ls hH hS hl)
def hrem (x y : Int32) : Int32 := x - x / y * y
theorem hv_idiv {x y : Int32} (hd : decode (hmB M) pc = .ok (.idiv, 1)) (hne : ¬ y = 0) (h : hV G M ck cn Sh (pc + 1) lv (.int (x / y) :: st) r σ τ) : hV G M ck cn Sh pc lv (.int y :: .int x :: st) r σ τ :=
  fun p e s m args below meth c C H locs ls hH hS hl => lv_idiv C.1 C.2.1 hd hne (h p e s m args below meth c C H locs ls hH hS hl)
theorem hv_ineg {x : Int32} (hd : decode (hmB M) pc = .ok (.ineg, 1)) (h : hV G M ck cn Sh (pc + 1) lv (.int (-x) :: st) r σ τ) : hV G M ck cn Sh pc lv (.int x :: st) r σ τ :=
  fun p e s m args below meth c C H locs ls hH hS hl => lv_ineg C.1 C.2.1 hd (h p e s m args below meth c C H locs ls hH hS hl)
def hush (x y : Int32) : Int32 := (x.toUInt32 >>> (y.toUInt32 &&& Int32.toUInt32 31)).toInt32
theorem hv_iushr {x y : Int32} (hd : decode (hmB M) pc = .ok (.iushr, 1))  (h : hV G M ck cn Sh (pc + 1) lv (.int (hush x y) :: st) r σ τ) : hV G M ck cn Sh pc lv (.int y :: .int x :: st) r σ τ :=
  fun p e s m args below meth c C H locs ls hH hS hl => lv_iushr C.1 C.2.1 hd rfl (h p e s m args below meth c C H locs ls hH hS hl)
theorem hv_i2b {x : Int32} (hd : decode (hmB M) pc = .ok (.i2b, 1))  (h : hV G M ck cn Sh (pc + 1) lv (.int x.toInt8.toInt32 :: st) r σ τ) : hV G M ck cn Sh pc lv (.int x :: st) r σ τ :=
  fun p e s m args below meth c C H locs ls hH hS hl => lv_i2b C.1 C.2.1 hd rfl (h p e s m args below meth c C H locs ls hH hS hl)
theorem hv_i2c {x : Int32} (hd : decode (hmB M) pc = .ok (.i2c, 1))  (h : hV G M ck cn Sh (pc + 1) lv (.int (x.toUInt32 % 65536).toInt32 :: st) r σ τ) : hV G M ck cn Sh pc lv (.int x :: st) r σ τ :=
  fun p e s m args below meth c C H locs ls hH hS hl => lv_i2c C.1 C.2.1 hd rfl (h p e s m args below meth c C H locs ls hH hS hl)
theorem hv_i2l {x : Int32} (hd : decode (hmB M) pc = .ok (.i2l, 1))  (h : hV G M ck cn Sh (pc + 1) lv (.long x.toInt64 :: st) r σ τ) : hV G M ck cn Sh pc lv (.int x :: st) r σ τ :=
  fun p e s m args below meth c C H locs ls hH hS hl => lv_i2l C.1 C.2.1 hd rfl (h p e s m args below meth c C H locs ls hH hS hl)
theorem hv_ladd {x y : Int64} (hd : decode (hmB M) pc = .ok (.ladd, 1)) (h : hV G M ck cn Sh (pc + 1) lv (.long (x + y) :: st) r σ τ) : hV G M ck cn Sh pc lv (.long y :: .long x :: st) r σ τ :=
  fun p e s m args below meth c C H locs ls hH hS hl => lv_ladd C.1 C.2.1 hd (h p e s m args below meth c C H locs ls hH hS hl)
theorem hv_lmul {x y : Int64} (hd : decode (hmB M) pc = .ok (.lmul, 1)) (h : hV G M ck cn Sh (pc + 1) lv (.long (x * y) :: st) r σ τ) : hV G M ck cn Sh pc lv (.long y :: .long x :: st) r σ τ :=
  fun p e s m args below meth c C H locs ls hH hS hl => lv_lmul C.1 C.2.1 hd (h p e s m args below meth c C H locs ls hH hS hl)
theorem hv_lcmp {x y : Int64} (hd : decode (hmB M) pc = .ok (.lcmp, 1)) (h : hV G M ck cn Sh (pc + 1) lv (.int (lg_cmp x y) :: st) r σ τ) : hV G M ck cn Sh pc lv (.long y :: .long x :: st) r σ τ :=
  fun p e s m args below meth c C H locs ls hH hS hl => W.lcmp C.1 C.2.1 hd (h p e s m args below meth c C H locs ls hH hS hl)
theorem hv_dup {a : Value} (hd : decode (hmB M) pc = .ok (.dup, 1)) (ha : a.category = 1) (h : hV G M ck cn Sh (pc + 1) lv (a :: a :: st) r σ τ) : hV G M ck cn Sh pc lv (a :: st) r σ τ :=
  fun p e s m args below meth c C H locs ls hH hS hl => lv_dup C.1 C.2.1 hd ha (h p e s m args below meth c C H locs ls hH hS hl)
theorem hv_pop {a : Value} (hd : decode (hmB M) pc = .ok (.pop, 1)) (ha : a.category = 1) (h : hV G M ck cn Sh (pc + 1) lv (st) r σ τ) : hV G M ck cn Sh pc lv (a :: st) r σ τ :=
  fun p e s m args below meth c C H locs ls hH hS hl => lv_pop C.1 C.2.1 hd ha (h p e s m args below meth c C H locs ls hH hS hl)
theorem hv_dup_x1 {a b : Value} (hd : decode (hmB M) pc = .ok (.dup_x1, 1)) (ha : a.category = 1) (hb : b.category = 1) (h : hV G M ck cn Sh (pc + 1) lv (a :: b :: a :: st) r σ τ) : hV G M ck cn Sh pc lv (a :: b :: st) r σ τ :=
  fun p e s m args below meth c C H locs ls hH hS hl => lv_dup_x1 C.1 C.2.1 hd ha hb (h p e s m args below meth c C H locs ls hH hS hl)
theorem hv_dup_x2 {a b d : Value} (hd : decode (hmB M) pc = .ok (.dup_x2, 1)) (ha : a.category = 1) (hb : b.category = 1) (hc : d.category = 1) (h : hV G M ck cn Sh (pc + 1) lv (a :: b :: d :: a :: st) r σ τ) : hV G M ck cn Sh pc lv (a :: b :: d :: st) r σ τ :=
  fun p e s m args below meth c C H locs ls hH hS hl => lv_dup_x2 C.1 C.2.1 hd ha hb hc (h p e s m args below meth c C H locs ls hH hS hl)
theorem hv_dup2 {a b : Value} (hd : decode (hmB M) pc = .ok (.dup2, 1)) (ha : a.category = 1) (hb : b.category = 1) (h : hV G M ck cn Sh (pc + 1) lv (a :: b :: a :: b :: st) r σ τ) : hV G M ck cn Sh pc lv (a :: b :: st) r σ τ :=
  fun p e s m args below meth c C H locs ls hH hS hl => lv_dup2_11 C.1 C.2.1 hd ha hb (h p e s m args below meth c C H locs ls hH hS hl)
theorem hv_if_eq {x : Int32} {off : Int} {tgt : Nat} (hd : decode (hmB M) pc = .ok (.ifCond .eq off, 3)) (ht : (pc : Int) + off = (tgt : Int)) (kt : x = 0 → hV G M ck cn Sh tgt lv st r σ τ) (kf : ¬ x = 0 → hV G M ck cn Sh (pc + 3) lv st r σ τ) : hV G M ck cn Sh pc lv (.int x :: st) r σ τ :=
  fun p e s m args below meth c C H locs ls hH hS hl => lv_if_eq C.1 C.2.1 hd ht (fun q => kt q p e s m args below meth c C H locs ls hH hS hl) (fun q => kf q p e s m args below meth c C H locs ls hH hS hl)
theorem hv_icmp_eq {x y : Int32} {off : Int} {tgt : Nat} (hd : decode (hmB M) pc = .ok (.if_icmp .eq off, 3)) (ht : (pc : Int) + off = (tgt : Int)) (kt : x = y → hV G M ck cn Sh tgt lv st r σ τ) (kf : ¬ x = y → hV G M ck cn Sh (pc + 3) lv st r σ τ) : hV G M ck cn Sh pc lv (.int y :: .int x :: st) r σ τ :=
  fun p e s m args below meth c C H locs ls hH hS hl => lv_icmp_eq C.1 C.2.1 hd ht (fun q => kt q p e s m args below meth c C H locs ls hH hS hl) (fun q => kf q p e s m args below meth c C H locs ls hH hS hl)
theorem hv_if_ne {x : Int32} {off : Int} {tgt : Nat} (hd : decode (hmB M) pc = .ok (.ifCond .ne off, 3)) (ht : (pc : Int) + off = (tgt : Int)) (kt : ¬ x = 0 → hV G M ck cn Sh tgt lv st r σ τ) (kf : x = 0 → hV G M ck cn Sh (pc + 3) lv st r σ τ) : hV G M ck cn Sh pc lv (.int x :: st) r σ τ :=
  fun p e s m args below meth c C H locs ls hH hS hl => lv_if_ne C.1 C.2.1 hd ht (fun q => kt q p e s m args below meth c C H locs ls hH hS hl) (fun q => kf q p e s m args below meth c C H locs ls hH hS hl)
theorem hv_icmp_ne {x y : Int32} {off : Int} {tgt : Nat} (hd : decode (hmB M) pc = .ok (.if_icmp .ne off, 3)) (ht : (pc : Int) + off = (tgt : Int)) (kt : ¬ x = y → hV G M ck cn Sh tgt lv st r σ τ) (kf : x = y → hV G M ck cn Sh (pc + 3) lv st r σ τ) : hV G M ck cn Sh pc lv (.int y :: .int x :: st) r σ τ :=
  fun p e s m args below meth c C H locs ls hH hS hl => lv_icmp_ne C.1 C.2.1 hd ht (fun q => kt q p e s m args below meth c C H locs ls hH hS hl) (fun q => kf q p e s m args below meth c C H locs ls hH hS hl)
theorem hv_if_lt {x : Int32} {off : Int} {tgt : Nat} (hd : decode (hmB M) pc = .ok (.ifCond .lt off, 3)) (ht : (pc : Int) + off = (tgt : Int)) (kt : x < 0 → hV G M ck cn Sh tgt lv st r σ τ) (kf : ¬ x < 0 → hV G M ck cn Sh (pc + 3) lv st r σ τ) : hV G M ck cn Sh pc lv (.int x :: st) r σ τ :=
  fun p e s m args below meth c C H locs ls hH hS hl => lv_if_lt C.1 C.2.1 hd ht (fun q => kt q p e s m args below meth c C H locs ls hH hS hl) (fun q => kf q p e s m args below meth c C H locs ls hH hS hl)
theorem hv_icmp_lt {x y : Int32} {off : Int} {tgt : Nat} (hd : decode (hmB M) pc = .ok (.if_icmp .lt off, 3)) (ht : (pc : Int) + off = (tgt : Int)) (kt : x < y → hV G M ck cn Sh tgt lv st r σ τ) (kf : ¬ x < y → hV G M ck cn Sh (pc + 3) lv st r σ τ) : hV G M ck cn Sh pc lv (.int y :: .int x :: st) r σ τ :=
  fun p e s m args below meth c C H locs ls hH hS hl => lv_icmp_lt C.1 C.2.1 hd ht (fun q => kt q p e s m args below meth c C H locs ls hH hS hl) (fun q => kf q p e s m args below meth c C H locs ls hH hS hl)
theorem hv_if_ge {x : Int32} {off : Int} {tgt : Nat} (hd : decode (hmB M) pc = .ok (.ifCond .ge off, 3)) (ht : (pc : Int) + off = (tgt : Int)) (kt : 0 ≤ x → hV G M ck cn Sh tgt lv st r σ τ) (kf : ¬ 0 ≤ x → hV G M ck cn Sh (pc + 3) lv st r σ τ) : hV G M ck cn Sh pc lv (.int x :: st) r σ τ :=
  fun p e s m args below meth c C H locs ls hH hS hl => lv_if_ge C.1 C.2.1 hd ht (fun q => kt q p e s m args below meth c C H locs ls hH hS hl) (fun q => kf q p e s m args below meth c C H locs ls hH hS hl)
theorem hv_icmp_ge {x y : Int32} {off : Int} {tgt : Nat} (hd : decode (hmB M) pc = .ok (.if_icmp .ge off, 3)) (ht : (pc : Int) + off = (tgt : Int)) (kt : y ≤ x → hV G M ck cn Sh tgt lv st r σ τ) (kf : ¬ y ≤ x → hV G M ck cn Sh (pc + 3) lv st r σ τ) : hV G M ck cn Sh pc lv (.int y :: .int x :: st) r σ τ :=
  fun p e s m args below meth c C H locs ls hH hS hl => lv_icmp_ge C.1 C.2.1 hd ht (fun q => kt q p e s m args below meth c C H locs ls hH hS hl) (fun q => kf q p e s m args below meth c C H locs ls hH hS hl)
theorem hv_if_gt {x : Int32} {off : Int} {tgt : Nat} (hd : decode (hmB M) pc = .ok (.ifCond .gt off, 3)) (ht : (pc : Int) + off = (tgt : Int)) (kt : 0 < x → hV G M ck cn Sh tgt lv st r σ τ) (kf : ¬ 0 < x → hV G M ck cn Sh (pc + 3) lv st r σ τ) : hV G M ck cn Sh pc lv (.int x :: st) r σ τ :=
  fun p e s m args below meth c C H locs ls hH hS hl => lv_if_gt C.1 C.2.1 hd ht (fun q => kt q p e s m args below meth c C H locs ls hH hS hl) (fun q => kf q p e s m args below meth c C H locs ls hH hS hl)
theorem hv_icmp_gt {x y : Int32} {off : Int} {tgt : Nat} (hd : decode (hmB M) pc = .ok (.if_icmp .gt off, 3)) (ht : (pc : Int) + off = (tgt : Int)) (kt : y < x → hV G M ck cn Sh tgt lv st r σ τ) (kf : ¬ y < x → hV G M ck cn Sh (pc + 3) lv st r σ τ) : hV G M ck cn Sh pc lv (.int y :: .int x :: st) r σ τ :=
  fun p e s m args below meth c C H locs ls hH hS hl => lv_icmp_gt C.1 C.2.1 hd ht (fun q => kt q p e s m args below meth c C H locs ls hH hS hl) (fun q => kf q p e s m args below meth c C H locs ls hH hS hl)
theorem hv_if_le {x : Int32} {off : Int} {tgt : Nat} (hd : decode (hmB M) pc = .ok (.ifCond .le off, 3)) (ht : (pc : Int) + off = (tgt : Int)) (kt : x ≤ 0 → hV G M ck cn Sh tgt lv st r σ τ) (kf : ¬ x ≤ 0 → hV G M ck cn Sh (pc + 3) lv st r σ τ) : hV G M ck cn Sh pc lv (.int x :: st) r σ τ :=
  fun p e s m args below meth c C H locs ls hH hS hl => lv_if_le C.1 C.2.1 hd ht (fun q => kt q p e s m args below meth c C H locs ls hH hS hl) (fun q => kf q p e s m args below meth c C H locs ls hH hS hl)
theorem hv_icmp_le {x y : Int32} {off : Int} {tgt : Nat} (hd : decode (hmB M) pc = .ok (.if_icmp .le off, 3)) (ht : (pc : Int) + off = (tgt : Int)) (kt : x ≤ y → hV G M ck cn Sh tgt lv st r σ τ) (kf : ¬ x ≤ y → hV G M ck cn Sh (pc + 3) lv st r σ τ) : hV G M ck cn Sh pc lv (.int y :: .int x :: st) r σ τ :=
  fun p e s m args below meth c C H locs ls hH hS hl => lv_icmp_le C.1 C.2.1 hd ht (fun q => kt q p e s m args below meth c C H locs ls hH hS hl) (fun q => kf q p e s m args below meth c C H locs ls hH hS hl)
theorem hv_goto {off : Int} {tgt : Nat} (hd : decode (hmB M) pc = .ok (.goto off, 3)) (ht : (pc : Int) + off = (tgt : Int)) (h : hV G M ck cn Sh tgt lv st r σ τ) : hV G M ck cn Sh pc lv st r σ τ :=
  fun p e s m args below meth c C H locs ls hH hS hl => lv_goto C.1 C.2.1 hd ht (h p e s m args below meth c C H locs ls hH hS hl)
theorem hv_irem {x y : Int32} (hd : decode (hmB M) pc = .ok (.irem, 1)) (hne : ¬ y = 0) (h : hV G M ck cn Sh (pc + 1) lv (.int (x - x / y * y) :: st) r σ τ) : hV G M ck cn Sh pc lv (.int y :: .int x :: st) r σ τ :=
  fun p e s m args below meth c C H locs ls hH hS hl => lv_irem C.1 C.2.1 hd hne (h p e s m args below meth c C H locs ls hH hS hl)
theorem hW_at {k : Nat} {q : Nat × Nat} (h : Sh[k]? = some q) : (hWd (hgC G) (hgA G) r σ τ 0 Sh)[k]? = some (hgA G k, hEk (hgC G) (hgA G) r σ τ k q) := by
  rw [hWd_get, h]
  simp
theorem hv_geti {idx ci j k : Nat} {fin : Bool} {ty : FieldType} (hd : decode (hmB M) pc = .ok (.getfield idx, 3)) (hF : hFl (hmY M).cls idx ci j fin ty) (hk : hkd Sh k = (0, ci)) (hf : hfg ci j = some false) (h : hV G M ck cn Sh (pc + 3) lv (.int (σ k j) :: st) r σ τ) : hV G M ck cn Sh pc lv (.ref (hgA G k) :: st) r σ τ := by
  intro p e s m args below meth c C H locs ls hH hS hl
  obtain ⟨C', T, N, h1, h2, h3, -, -⟩ := hF
  obtain ⟨hin, ty', -, -, hlen, -⟩ := hcls_ok ci C' T N h1
  refine va_get C.1 C.2.1 (Ts := hwd) C.2.2.2.2.2.1 hin C.2.2.2.2.1 C.2.2.2.2.2.2.2.1.2.1 hH.1 k (hW_at (hkd_spec hk (by decide))) h1 j h2 (C.2.2.2.2.2.1 _ h3) (fun _ x => x) (v := .int (σ k j)) ?_ hd (h p e s m args below meth c C H locs ls hH hS hl)
  rw [hfs_get]
  show (hfg ci j).map _ = _
  rw [hf]
  simp [hfv]
theorem hv_getr {idx ci j k t : Nat} {fin : Bool} {ty : FieldType} (hd : decode (hmB M) pc = .ok (.getfield idx, 3)) (hF : hFl (hmY M).cls idx ci j fin ty) (hk : hkd Sh k = (0, ci)) (hf : hfg ci j = some true) (hr : r k j = some t) (h : hV G M ck cn Sh (pc + 3) lv (.ref (hgA G t) :: st) r σ τ) : hV G M ck cn Sh pc lv (.ref (hgA G k) :: st) r σ τ := by
  intro p e s m args below meth c C H locs ls hH hS hl
  obtain ⟨C', T, N, h1, h2, h3, -, -⟩ := hF
  obtain ⟨hin, ty', -, -, hlen, -⟩ := hcls_ok ci C' T N h1
  refine va_get C.1 C.2.1 (Ts := hwd) C.2.2.2.2.2.1 hin C.2.2.2.2.1 C.2.2.2.2.2.2.2.1.2.1 hH.1 k (hW_at (hkd_spec hk (by decide))) h1 j h2 (C.2.2.2.2.2.1 _ h3) (fun _ x => x) (v := .ref (hgA G t)) ?_ hd (h p e s m args below meth c C H locs ls hH hS hl)
  rw [hfs_get]
  show (hfg ci j).map _ = _
  rw [hf]
  simp [hfv, hr, va_rf]
theorem hv_puti {idx ci j k : Nat} {ty : FieldType} {x : Int32} (hd : decode (hmB M) pc = .ok (.putfield idx, 3)) (hF : hFl (hmY M).cls idx ci j false ty) (hk : hkd Sh k = (0, ci)) (hf : hfg ci j = some false) (hn : narrow ty (.int x) = .int x) (hfit : fits ty (.int x) = true) (h : hV G M ck cn Sh (pc + 3) lv st r (va_up σ k (upd (σ k) j x)) τ) : hV G M ck cn Sh pc lv (.int x :: .ref (hgA G k) :: st) r σ τ := by
  intro p e s m args below meth c C H locs ls hH hS hl
  obtain ⟨C', T, N, h1, h2, h3, h4, h5⟩ := hF
  obtain ⟨hin, ty', ht1, ht2, hlen, -⟩ := hcls_ok ci C' T N h1
  have hk' := hkd_spec hk (by decide)
  refine va_put C.1 C.2.1 (Ts := hwd) C.2.2.2.2.2.1 hin ty' ht1 ht2 C.2.2.2.2.1 C.2.2.2.2.2.2.2.1.2.1 hH.1 hH.2 hS k (hW_at hk') h1 j h2 (C.2.2.2.2.2.1 _ h3) (fun _ x => x) h4 h5 hn hfit (by rw [hfs_len]; show j < (hfl.getD ci []).length; rw [hlen]; exact h2) hd (fun H1 locs1 a1 a2 a3 => ?_)
  rw [hWd_setf hk' hf] at a1 a2
  exact h p e s m args below meth c C H1 locs1 ls ⟨a1, a2⟩ a3 hl
theorem hv_putr {idx ci j k t : Nat} {ty : FieldType} (hd : decode (hmB M) pc = .ok (.putfield idx, 3)) (hF : hFl (hmY M).cls idx ci j false ty) (hk : hkd Sh k = (0, ci)) (hf : hfg ci j = some true) (hn : narrow ty (.ref (hgA G t)) = .ref (hgA G t)) (hfit : fits ty (.ref (hgA G t)) = true) (h : hV G M ck cn Sh (pc + 3) lv st (va_up r k (va_up (r k) j (some t))) σ τ) : hV G M ck cn Sh pc lv (.ref (hgA G t) :: .ref (hgA G k) :: st) r σ τ := by
  intro p e s m args below meth c C H locs ls hH hS hl
  obtain ⟨C', T, N, h1, h2, h3, h4, h5⟩ := hF
  obtain ⟨hin, ty', ht1, ht2, hlen, -⟩ := hcls_ok ci C' T N h1
  have hk' := hkd_spec hk (by decide)
  refine va_put C.1 C.2.1 (Ts := hwd) C.2.2.2.2.2.1 hin ty' ht1 ht2 C.2.2.2.2.1 C.2.2.2.2.2.2.2.1.2.1 hH.1 hH.2 hS k (hW_at hk') h1 j h2 (C.2.2.2.2.2.1 _ h3) (fun _ x => x) h4 h5 hn hfit (by rw [hfs_len]; show j < (hfl.getD ci []).length; rw [hlen]; exact h2) hd (fun H1 locs1 a1 a2 a3 => ?_)
  have e0 := hWd_setr (ca := hgC G) (ad := hgA G) (r := r) (σ := σ) (τ := τ) (x := some t) hk' hf
  rw [show (Value.ref (hgA G t)) = va_rf ((some t).map (hgA G)) from rfl, e0] at a1 a2
  exact h p e s m args below meth c C H1 locs1 ls ⟨a1, a2⟩ a3 hl
theorem hv_putF {idx ci j k t : Nat} {ty : FieldType} (hd : decode (hmB M) pc = .ok (.putfield idx, 3)) (hF : hFl (hmY M).cls idx ci j true ty) (hk : hkd Sh k = (0, ci)) (hf : hfg ci j = some true) (hi : (hmY M).name = "<init>") (ho : ∀ C T N, vwCl[ci]? = some (C, T, N) → (T j).1 = (hmY M).cls) (hn : narrow ty (.ref (hgA G t)) = .ref (hgA G t)) (hfit : fits ty (.ref (hgA G t)) = true) (h : hV G M ck cn Sh (pc + 3) lv st (va_up r k (va_up (r k) j (some t))) σ τ) : hV G M ck cn Sh pc lv (.ref (hgA G t) :: .ref (hgA G k) :: st) r σ τ := by
  intro p e s m args below meth c C H locs ls hH hS hl
  obtain ⟨C', T, N, h1, h2, h3, h4, h5⟩ := hF
  obtain ⟨hin, ty', ht1, ht2, hlen, -⟩ := hcls_ok ci C' T N h1
  have hk' := hkd_spec hk (by decide)
  refine va_putF C.1 C.2.1 (Ts := hwd) C.2.2.2.2.2.1 hin ty' ht1 ht2 C.2.2.2.2.1 C.2.2.2.2.2.2.2.1.2.1 hH.1 hH.2 hS k (hW_at hk') h1 j h2 (C.2.2.2.2.2.1 _ h3) (fun _ x => x) h4 (C.2.2.2.2.2.2.2.2.1.trans hi) (ho _ _ _ h1) h5 hn hfit (by rw [hfs_len]; show j < (hfl.getD ci []).length; rw [hlen]; exact h2) hd (fun H1 locs1 a1 a2 a3 => ?_)
  have e0 := hWd_setr (ca := hgC G) (ad := hgA G) (r := r) (σ := σ) (τ := τ) (x := some t) hk' hf
  rw [show (Value.ref (hgA G t)) = va_rf ((some t).map (hgA G)) from rfl, e0] at a1 a2
  exact h p e s m args below meth c C H1 locs1 ls ⟨a1, a2⟩ a3 hl
theorem hv_iald {k n j : Nat} {i : Int32} (hd : decode (hmB M) pc = .ok (.iaload, 1)) (hk : hkd Sh k = (1, n)) (hi : i = nI j) (hj : j < n) (hb : n < 2 ^ 31) (h : hV G M ck cn Sh (pc + 1) lv (.int (σ k j) :: st) r σ τ) : hV G M ck cn Sh pc lv (.int i :: .ref (hgA G k) :: st) r σ τ := by
  intro p e s m args below meth c C H locs ls hH hS hl
  subst hi
  refine va_iald C.1 C.2.1 C.2.2.2.2.2.2.2.1.2.1 hH.1 k 0 (hW_at (hkd_spec hk (by decide))) rfl (vp_in_nI hj hb) hd ?_
  rw [nI_clamp (by omega)]
  exact h p e s m args below meth c C H locs ls hH hS hl
theorem hv_bald {k n j : Nat} {i : Int32} (hd : decode (hmB M) pc = .ok (.baload, 1)) (hk : hkd Sh k = (2, n)) (hi : i = nI j) (hj : j < n) (hb : n < 2 ^ 31) (h : hV G M ck cn Sh (pc + 1) lv (.int (σ k j) :: st) r σ τ) : hV G M ck cn Sh pc lv (.int i :: .ref (hgA G k) :: st) r σ τ := by
  intro p e s m args below meth c C H locs ls hH hS hl
  subst hi
  refine va_bald C.1 C.2.1 C.2.2.2.2.2.2.2.1.2.1 hH.1 k 1 (hW_at (hkd_spec hk (by decide))) rfl (vp_in_nI hj hb) hd ?_
  rw [nI_clamp (by omega)]
  exact h p e s m args below meth c C H locs ls hH hS hl
theorem hv_zald {k n j : Nat} {i : Int32} (hd : decode (hmB M) pc = .ok (.baload, 1)) (hk : hkd Sh k = (3, n)) (hi : i = nI j) (hj : j < n) (hb : n < 2 ^ 31) (h : hV G M ck cn Sh (pc + 1) lv (.int (σ k j) :: st) r σ τ) : hV G M ck cn Sh pc lv (.int i :: .ref (hgA G k) :: st) r σ τ := by
  intro p e s m args below meth c C H locs ls hH hS hl
  subst hi
  refine va_zald C.1 C.2.1 C.2.2.2.2.2.2.2.1.2.1 hH.1 k 2 (hW_at (hkd_spec hk (by decide))) rfl (vp_in_nI hj hb) hd ?_
  rw [nI_clamp (by omega)]
  exact h p e s m args below meth c C H locs ls hH hS hl
theorem hv_lald {k n j : Nat} {i : Int32} (hd : decode (hmB M) pc = .ok (.laload, 1)) (hk : hkd Sh k = (4, n)) (hi : i = nI j) (hj : j < n) (hb : n < 2 ^ 31) (h : hV G M ck cn Sh (pc + 1) lv (.long (τ k j) :: st) r σ τ) : hV G M ck cn Sh pc lv (.int i :: .ref (hgA G k) :: st) r σ τ := by
  intro p e s m args below meth c C H locs ls hH hS hl
  subst hi
  refine va_lald C.1 C.2.1 C.2.2.2.2.2.2.2.1.2.1 hH.1 k 3 (hW_at (hkd_spec hk (by decide))) rfl (vp_in_nI hj hb) hd ?_
  rw [nI_clamp (by omega)]
  exact h p e s m args below meth c C H locs ls hH hS hl
theorem hv_iast {k n j : Nat} {i x : Int32} (hd : decode (hmB M) pc = .ok (.iastore, 1)) (hk : hkd Sh k = (1, n)) (hi : i = nI j) (hj : j < n) (hb : n < 2 ^ 31) (h : hV G M ck cn Sh (pc + 1) lv st r (va_up σ k (upd (σ k) j x)) τ) : hV G M ck cn Sh pc lv (.int x :: .int i :: .ref (hgA G k) :: st) r σ τ := by
  intro p e s m args below meth c C H locs ls hH hS hl
  subst hi
  have hk' := hkd_spec hk (by decide)
  refine va_iast C.1 C.2.1 C.2.2.2.2.2.2.2.1.2.1 hH.1 hH.2 hS k 0 (hW_at hk') rfl (vp_in_nI hj hb) hd (fun H1 locs1 a1 a2 a3 => ?_)
  have e0 : (hWd (hgC G) (hgA G) r σ τ 0 Sh).set k (hgA G k, .inl (hgC G 0, n, .inl (upd (σ k) (nI j).toNatClampNeg x))) = hWd (hgC G) (hgA G) r (va_up σ k (upd (σ k) j x)) τ 0 Sh := by
    rw [nI_clamp (by omega)]; exact hWd_seti (t := 0) hk' (by decide)
  exact h p e s m args below meth c C H1 locs1 ls ⟨e0 ▸ a1, e0 ▸ a2⟩ a3 hl
theorem hv_bast {k n j : Nat} {i x : Int32} (hd : decode (hmB M) pc = .ok (.bastore, 1)) (hk : hkd Sh k = (2, n)) (hi : i = nI j) (hj : j < n) (hb : n < 2 ^ 31) (h : hV G M ck cn Sh (pc + 1) lv st r (va_up σ k (upd (σ k) j (vp_nar .byte x))) τ) : hV G M ck cn Sh pc lv (.int x :: .int i :: .ref (hgA G k) :: st) r σ τ := by
  intro p e s m args below meth c C H locs ls hH hS hl
  subst hi
  have hk' := hkd_spec hk (by decide)
  refine va_bast C.1 C.2.1 C.2.2.2.2.2.2.2.1.2.1 hH.1 hH.2 hS k 1 (hW_at hk') rfl (vp_in_nI hj hb) hd (fun H1 locs1 a1 a2 a3 => ?_)
  have e0 : (hWd (hgC G) (hgA G) r σ τ 0 Sh).set k (hgA G k, .inl (hgC G 1, n, .inl (upd (σ k) (nI j).toNatClampNeg (vp_nar .byte x)))) = hWd (hgC G) (hgA G) r (va_up σ k (upd (σ k) j (vp_nar .byte x))) τ 0 Sh := by
    rw [nI_clamp (by omega)]; exact hWd_seti (t := 1) hk' (by decide)
  exact h p e s m args below meth c C H1 locs1 ls ⟨e0 ▸ a1, e0 ▸ a2⟩ a3 hl
theorem hv_zast {k n j : Nat} {i x : Int32} (hd : decode (hmB M) pc = .ok (.bastore, 1)) (hk : hkd Sh k = (3, n)) (hi : i = nI j) (hj : j < n) (hb : n < 2 ^ 31) (h : hV G M ck cn Sh (pc + 1) lv st r (va_up σ k (upd (σ k) j (vp_nar .boolean x))) τ) : hV G M ck cn Sh pc lv (.int x :: .int i :: .ref (hgA G k) :: st) r σ τ := by
  intro p e s m args below meth c C H locs ls hH hS hl
  subst hi
  have hk' := hkd_spec hk (by decide)
  refine va_zast C.1 C.2.1 C.2.2.2.2.2.2.2.1.2.1 hH.1 hH.2 hS k 2 (hW_at hk') rfl (vp_in_nI hj hb) hd (fun H1 locs1 a1 a2 a3 => ?_)
  have e0 : (hWd (hgC G) (hgA G) r σ τ 0 Sh).set k (hgA G k, .inl (hgC G 2, n, .inl (upd (σ k) (nI j).toNatClampNeg (vp_nar .boolean x)))) = hWd (hgC G) (hgA G) r (va_up σ k (upd (σ k) j (vp_nar .boolean x))) τ 0 Sh := by
    rw [nI_clamp (by omega)]; exact hWd_seti (t := 2) hk' (by decide)
  exact h p e s m args below meth c C H1 locs1 ls ⟨e0 ▸ a1, e0 ▸ a2⟩ a3 hl
theorem hv_last {k n j : Nat} {i : Int32} {x : Int64} (hd : decode (hmB M) pc = .ok (.lastore, 1)) (hk : hkd Sh k = (4, n)) (hi : i = nI j) (hj : j < n) (hb : n < 2 ^ 31) (h : hV G M ck cn Sh (pc + 1) lv st r σ (va_up τ k (vp_updL (τ k) j x))) : hV G M ck cn Sh pc lv (.long x :: .int i :: .ref (hgA G k) :: st) r σ τ := by
  intro p e s m args below meth c C H locs ls hH hS hl
  subst hi
  have hk' := hkd_spec hk (by decide)
  refine va_last C.1 C.2.1 C.2.2.2.2.2.2.2.1.2.1 hH.1 hH.2 hS k 3 (hW_at hk') rfl (vp_in_nI hj hb) hd (fun H1 locs1 a1 a2 a3 => ?_)
  have e0 : (hWd (hgC G) (hgA G) r σ τ 0 Sh).set k (hgA G k, .inl (hgC G 3, n, .inr (.inl (vp_updL (τ k) (nI j).toNatClampNeg x)))) = hWd (hgC G) (hgA G) r σ (va_up τ k (vp_updL (τ k) j x)) 0 Sh := by
    rw [nI_clamp (by omega)]; exact hWd_setl hk'
  exact h p e s m args below meth c C H1 locs1 ls ⟨e0 ▸ a1, e0 ▸ a2⟩ a3 hl
theorem hv_ldc {idx : Nat} {v : Int32} (hd : decode (hmB M) pc = .ok (.ldc idx, 2)) (hc : Cond.constant (hmY M).cls idx v ∈ hwd) (h : hV G M ck cn Sh (pc + 2) lv (.int v :: st) r σ τ) : hV G M ck cn Sh pc lv st r σ τ :=
  fun p e s m args below meth c C H locs ls hH hS hl => lv_ldc C.1 C.2.1 C.2.2.2.2.1 (C.2.2.2.2.2.1 _ hc) hd (h p e s m args below meth c C H locs ls hH hS hl)
theorem hv_ldcw {idx : Nat} {v : Int32} (hd : decode (hmB M) pc = .ok (.ldc_w idx, 3)) (hc : Cond.constant (hmY M).cls idx v ∈ hwd) (h : hV G M ck cn Sh (pc + 3) lv (.int v :: st) r σ τ) : hV G M ck cn Sh pc lv st r σ τ :=
  fun p e s m args below meth c C H locs ls hH hS hl => lv_ldcw C.1 C.2.1 C.2.2.2.2.1 (C.2.2.2.2.2.1 _ hc) hd (h p e s m args below meth c C H locs ls hH hS hl)
theorem hv_ldc2 {idx : Nat} {v : Int64} (hd : decode (hmB M) pc = .ok (.ldc2_w idx, 3)) (hc : Cond.constantLong (hmY M).cls idx v ∈ hwd) (h : hV G M ck cn Sh (pc + 3) lv (.long v :: st) r σ τ) : hV G M ck cn Sh pc lv st r σ τ :=
  fun p e s m args below meth c C H locs ls hH hS hl => lv_ldc2 C.1 C.2.1 C.2.2.2.2.1 (C.2.2.2.2.2.1 _ hc) hd (h p e s m args below meth c C H locs ls hH hS hl)
theorem hv_iret {v : Int32} (hd : decode (hmB M) pc = .ok (.ireturn, 1)) (hr : hmT M = some .int) (hq : hmQ M (some (.int v)) r σ τ) : hV G M (hmc M) (hms M) (hmE M) pc lv [.int v] r σ τ :=
  fun p e s m args below meth c C H locs ls hH hS hl => W.iret C.1 C.2.1 (C.2.2.1.trans hr) (fun t ht hw => ⟨⟨_, r, σ, τ, rfl, hq, by rw [ht]; exact hH⟩, hS.F ht⟩) (fun q hq => hS.2.2 q hq) hd C.2.2.2.2.2.2.1
theorem hv_zret {v : Int32} (hd : decode (hmB M) pc = .ok (.ireturn, 1)) (hr : hmT M = some .boolean) (hn : v = 0 ∨ v = 1) (hq : hmQ M (some (.int v)) r σ τ) : hV G M (hmc M) (hms M) (hmE M) pc lv [.int v] r σ τ :=
  fun p e s m args below meth c C H locs ls hH hS hl => W.zret C.1 C.2.1 (C.2.2.1.trans hr) (by rcases hn with rfl | rfl <;> rfl) (fun t ht hw => ⟨⟨_, r, σ, τ, rfl, hq, by rw [ht]; exact hH⟩, hS.F ht⟩) (fun q hq => hS.2.2 q hq) hd C.2.2.2.2.2.2.1
theorem hv_lret {v : Int64} (hd : decode (hmB M) pc = .ok (.lreturn, 1)) (hr : hmT M = some .long) (hq : hmQ M (some (.long v)) r σ τ) : hV G M (hmc M) (hms M) (hmE M) pc lv [.long v] r σ τ :=
  fun p e s m args below meth c C H locs ls hH hS hl => W.lret C.1 C.2.1 (C.2.2.1.trans hr) (fun t ht hw => ⟨⟨_, r, σ, τ, rfl, hq, by rw [ht]; exact hH⟩, hS.F ht⟩) (fun q hq => hS.2.2 q hq) hd C.2.2.2.2.2.2.1
theorem hv_vret (hd : decode (hmB M) pc = .ok (.return_, 1)) (hr : hmT M = none) (hq : hmQ M none r σ τ) : hV G M (hmc M) (hms M) (hmE M) pc lv [] r σ τ :=
  fun p e s m args below meth c C H locs ls hH hS hl => W.vret C.1 C.2.1 (C.2.2.1.trans hr) (fun t ht hw => ⟨⟨_, r, σ, τ, rfl, hq, by rw [ht]; exact hH⟩, hS.F ht⟩) (fun q hq => hS.2.2 q hq) hd C.2.2.2.2.2.2.1
theorem hv_aret {rt : FieldType} {a : Nat} (hd : decode (hmB M) pc = .ok (.areturn, 1)) (hr : hmT M = some rt) (hrt : (∃ n, rt = .object n) ∨ ∃ t, rt = .array t) (hq : hmQ M (some (.ref a)) r σ τ) : hV G M (hmc M) (hms M) (hmE M) pc lv [.ref a] r σ τ :=
  fun p e s m args below meth c C H locs ls hH hS hl => W.aret C.1 C.2.1 (C.2.2.1.trans hr) hrt (Or.inr ⟨_, rfl⟩) (fun t ht hw => ⟨⟨_, r, σ, τ, rfl, hq, by rw [ht]; exact hH⟩, hS.F ht⟩) (fun q hq => hS.2.2 q hq) hd C.2.2.2.2.2.2.1
/-! calls -/
def hfit (M M' : hMe) (ck cn : Nat) : Bool := (hmR M').cells == hmc M' && ((hmR M').slots == hms M' && (Nat.ble ((hmR M').frames + 1) (hmR M).frames && (Nat.ble (8 + (hmN M' + 11) + (hmR M').locals) (hmR M).locals && (Nat.ble (ck + hmc M') (hmR M).cells && Nat.ble (cn + hms M') (hmR M).slots))))
theorem hfit_spec {M' : hMe} (h : hfit M M' ck cn = true) : (hmR M').cells = hmc M' ∧ (hmR M').slots = hms M' ∧ (hmR M').frames + 1 ≤ (hmR M).frames ∧ 8 + (hmN M' + 11) + (hmR M').locals ≤ (hmR M).locals ∧ ck + hmc M' ≤ (hmR M).cells ∧ cn + hms M' ≤ (hmR M).slots := by
  simp only [hfit, Bool.and_eq_true, beq_iff_eq, Nat.ble_eq] at h
  exact h
theorem hIn_at {s U : State} {H : Heap} {locs : List Loc} (hI : hIn G s) (hS : va_S (hFr G) s.heap H locs) (hU : U.heap = H) (hW : s.WarmedH U.vm) : hIn G U := by
  obtain ⟨h1, h2, h3, h4, h5, h6, h7⟩ := hI
  have hk : ∀ a : Nat, a < s.heap.size → ¬ hFr G a → U.heap[a]? = s.heap[a]? := fun a q1 q2 => by rw [hU]; exact hS.2.1 a q1 q2
  exact ⟨by rw [hU]; exact Nat.le_trans h1 hS.1, va_K.moved hW.alike h2, (h3.moved hW.alike).kept hk, h4.warm hW, h5.warm hW, (h6.moved hW.alike).kept hk, (h7.moved hW.alike).kept hk⟩
theorem hIn_calling {U : State} {g : JFrame} {mk : MethodId} {a : Array Value} (hI : hIn G U) : hIn G (U.calling g mk a) := by
  obtain ⟨h1, h2, h3, h4, h5, h6, h7⟩ := hI
  exact ⟨h1, va_K.moved (u := U) (U := U.calling g mk a) (Vm.Alike.refl U.vm) h2, vk_S.moved (u := U) (U := U.calling g mk a) (Vm.Alike.refl U.vm) h3, vk_R.same (u := U) (U := U.calling g mk a) rfl h4, vk_R.same (u := U) (U := U.calling g mk a) rfl h5, va_Z.moved (u := U) (U := U.calling g mk a) (Vm.Alike.refl U.vm) h6, va_Zq.moved (u := U) (U := U.calling g mk a) (Vm.Alike.refl U.vm) h7⟩
theorem hnw_on : ∀ w ∈ hnw, w.onTables = true := by
  intro w hw
  unfold hnw at hw
  simp only [List.mem_cons, List.not_mem_nil, or_false] at hw
  rcases hw with rfl | rfl | rfl | rfl | rfl | rfl | rfl <;> rfl
theorem hZs_calling {M' : hMe} {U : State} {g : JFrame} {mk : MethodId} {a : Array Value} (h : hZs G M' U) : hZs G M' (U.calling g mk a) := fun n hn => by
  obtain ⟨h1, h2, h3, h4⟩ := h n hn
  exact ⟨h1, fun w hw => va_Nw.same (hnw_on w hw) (u := U) (U := U.calling g mk a) rfl (h2 w hw), va_X.moved (u := U) (U := U.calling g mk a) (Vm.Alike.refl U.vm) h3, h4⟩
theorem hblind {M' : hMe} {as : List Value} : FrameBlind (va_Pc as (fun U => hIn G U ∧ hZs G M' U ∧ hHp G Sh r σ τ U.heap)) := by
  intro a U g mk h
  exact ⟨h.1, hIn_calling h.2.1, hZs_calling h.2.2.1, h.2.2.2⟩
theorem hgood {y : MethodName} {cc : ByteArray} {nL : Nat} {ret : Option FieldType} (h : Cond.code y cc nL ret ∈ hwd) : GoodIn hwd (Cond.code y cc nL ret :: hwd) := by
  intro w hw
  rcases List.mem_cons.mp hw with rfl | hw
  · exact hwd_good _ h
  · exact hwd_good _ hw
/-- behind a call -/
theorem hgoes {p : Program} {e : Env} {s : State} {m : MethodId} {args : Array Value} {below : List Frame} {meth : Method} {c : Code} {H : Heap} {locs : List Loc} {ls : Array Slot} {M' : hMe} {as : Array Value} {st0 : List Value}
    (C : hCx G M p s m args meth c) (hSS : va_S (hFr G) s.heap H locs) (hl : lv_has ls (hmN M) (hasc 0 lv))
    (hr : va_Run p (hgL G) e (hmR M) s m args below meth c H locs ck cn (hmc M') (hms M') (F0 m pc ls st0) st (hQc G (hmE M') (hmQ M') as) (hFr G))
    (kk : ∀ (v : Option Value) (r' : hR) (σ' : hS) (τ' : hT), hmQ M' v r' σ' τ' → hV G M (ck + hmc M') (cn + hms M') (hmE M') (pc + 3) lv (v.toList ++ st) r' σ' τ') :
    W p (hgL G) e (hmR M) s m args below meth c H locs ck cn (MQ below (hQc G (hmE M) (hmQ M)) args s (hmc M) (hms M) (hFr G)) (F0 m pc ls st0) := by
  intro T hT X
  obtain ⟨v, st₀, t, T', L, h0, X', hL, e1, e2, ⟨⟨v', r', σ', τ', hv, hq, hH'⟩, hz, hk⟩, sx⟩ := hr T hT X
  cases hv
  rw [h0] at hz hk
  obtain ⟨t2, a1, b1⟩ := kk v r' σ' τ' hq p e s m args below meth c C T'.heap (locs ++ L) ls (by rw [e1]; exact hH')
    ⟨Nat.le_trans hSS.1 (by rw [e1]; exact hz), fun q h1 h2 => by rw [e1, hk q (Nat.lt_of_lt_of_le h1 hSS.1) h2]; exact hSS.2.1 q h1 h2, fun q hq => by
      rcases List.mem_append.mp hq with h | h
      · exact hSS.2.2 q h
      · exact hL q h⟩ hl T' rfl X'
  exact ⟨t2, sx t2 a1, b1⟩
theorem hv_callV (M' : hMe) {idx b ci n : Nat} {q : vw_C} (As : List Value) (hd : decode (hmB M) pc = .ok (.invokevirtual idx, 3)) (hL : Cond.methodLink (hmY M).cls idx (hmY M') ∈ hwd) (hm : hMv (hmY M') (hmB M') (hmN M') (hmT M') n) (hn : As.length = n) (hk : hkd Sh b = (0, ci)) (hc : vwCl[ci]? = some q) (hq : q.1 = (hmY M').cls) (hZ : hmZ M' = none) (hf : hfit M M' ck cn = true) (hst : Nat.ble (st.map fun v => v.category).sum 8 = true)
    (hC : hCal G M' (.ref (hgA G b) :: As) Sh r σ τ) (kk : ∀ (v : Option Value) (r' : hR) (σ' : hS) (τ' : hT), hmQ M' v r' σ' τ' → hV G M (ck + hmc M') (cn + hms M') (hmE M') (pc + 3) lv (v.toList ++ st) r' σ' τ') : hV G M ck cn Sh pc lv (As.reverse ++ .ref (hgA G b) :: st) r σ τ := by
  intro p e s m args below meth c C H locs ls hH hS hl
  obtain ⟨f1, f2, f3, f4, f5, f6⟩ := hfit_spec hf
  obtain ⟨⟨m1, m2, m3, m4⟩, md⟩ := hm
  have hts := C.2.2.2.2.2.1
  have hb : CallB (hmR M) s args (hmY M).cls idx (hmY M') (hmB M') (hmN M') (hmT M') (Cond.code (hmY M') (hmB M') (hmN M') (hmT M') :: hwd) (hmR M') (hmc M') (hms M') n :=
    callB_of n hts (hgood m4) rfl f1 f2 (hts _ m3) (hts _ hL) md ⟨f3, f4⟩
  refine hgoes C hS hl (va_runV (C := (hmY M').cls) ⟨C.1, C.2.1, C.2.2.2.1, C.2.2.2.2.1, hts⟩ hC ⟨hb, hts _ m1, hts _ m2⟩ ⟨hblind, ?_, fun U hU hW => ⟨rfl, hIn_at C.2.2.2.2.2.2.2.1 hS hU hW, (fun n h => absurd (hZ.symm.trans h) (by simp)), by rw [hU]; exact hH⟩⟩ rfl hn hl.1 rfl (lv_room (Nat.le_of_ble_eq_true hst)) hd ⟨f5, f6⟩) kk
  have h := va_recv C.2.2.2.2.2.2.2.1.2.1 hH.1 hc (hW_at (hkd_spec hk (by decide)))
  rw [hq] at h
  exact h
theorem hv_callS (M' : hMe) {idx n : Nat} (As : List Value) (hd : decode (hmB M) pc = .ok (.invokestatic idx, 3)) (hL : Cond.methodLink (hmY M).cls idx (hmY M') ∈ hwd) (hm : hMs (hmY M') (hmB M') (hmN M') (hmT M') n) (hn : As.length = n) (hZ : hmZ M' = none) (hf : hfit M M' ck cn = true) (hst : Nat.ble (st.map fun v => v.category).sum 8 = true)
    (hC : hCal G M' As Sh r σ τ) (kk : ∀ (v : Option Value) (r' : hR) (σ' : hS) (τ' : hT), hmQ M' v r' σ' τ' → hV G M (ck + hmc M') (cn + hms M') (hmE M') (pc + 3) lv (v.toList ++ st) r' σ' τ') : hV G M ck cn Sh pc lv (As.reverse ++ st) r σ τ := by
  intro p e s m args below meth c C H locs ls hH hS hl
  obtain ⟨f1, f2, f3, f4, f5, f6⟩ := hfit_spec hf
  obtain ⟨⟨m1, m3, m4⟩, md⟩ := hm
  have hts := C.2.2.2.2.2.1
  have hb : CallB (hmR M) s args (hmY M).cls idx (hmY M') (hmB M') (hmN M') (hmT M') (Cond.code (hmY M') (hmB M') (hmN M') (hmT M') :: hwd) (hmR M') (hmc M') (hms M') n :=
    callB_of n hts (hgood m4) rfl f1 f2 (hts _ m3) (hts _ hL) md ⟨f3, f4⟩
  exact hgoes C hS hl (va_runS ⟨C.1, C.2.1, C.2.2.2.1, C.2.2.2.2.1, hts⟩ hC ⟨hb, hts _ m1⟩ ⟨hblind, fun U hU hW => ⟨rfl, hIn_at C.2.2.2.2.2.2.2.1 hS hU hW, (fun n h => absurd (hZ.symm.trans h) (by simp)), by rw [hU]; exact hH⟩⟩ rfl hn hl.1 rfl (lv_room (Nat.le_of_ble_eq_true hst)) hd ⟨f5, f6⟩) kk

end HV

