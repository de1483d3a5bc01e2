theorem nar_by (w : Int32) (k : Nat) : vp_nar .byte (fBy w k) = fBy w k := by
  show (fBy w k).toInt8.toInt32 = fBy w k
  unfold fBy
  simp
/-- the same bytes on both tapes -/
def bEq (n : Nat) (f g : hF) : Prop := ∀ i, i < n → g i = f i ∧ vp_nar .byte (f i) = f i
theorem bEq_add {n : Nat} {f g : hF} {w : Int32} (h : bEq n f g) : ∀ k, bEq (n + k) (fAdd f n w k) (fAdd g n w k)
  | 0 => h
  | k + 1 => fun i hi => by
    rw [fAdd, fAdd]
    by_cases e : i = n + k
    · subst e; rw [pk_us, pk_us]; exact ⟨rfl, nar_by w k⟩
    · rw [pk_un e, pk_un e]; exact bEq_add h k i (by omega)
theorem bEq_fed {n : Nat} {f g : hF} {a b c d e : Int32} (h : bEq n f g) : bEq (n + 20) (fFed f n a b c d e) (fFed g n a b c d e) :=
  bEq_add (bEq_add (bEq_add (bEq_add (bEq_add h 4) 4) 4) 4) 4
/-- what only the tapes, what was told and the place change -/
theorem R2_tape {σ σ2 : hS} {τ : hT} {h sz L : Nat} {LF : Nat → hF → Int32} {pr : Nat → Option Nat} (hR : R2 σ σ τ h sz L LF pr) (o : ∀ k, k ∉ [1, 2, 35, 36, 37, 64, 65, 105, 106] → σ2 k = σ k) (k : ∀ j, j ∈ [17, 18, 57] → σ2 64 j = σ 64 j) (ht : rTp σ2 σ2) (hto : rTo σ2 σ2) : Rel σ2 τ := by
  obtain ⟨⟨a1, a2, a3, a4, a5, a6⟩, r2, r3, r4, r5, r6, r7, r8, r9, r10⟩ := hR
  refine ⟨h, sz, L, LF, pr, ⟨?_, ?_, ?_, ?_, ?_, rLw_e a6 (fun c hc => o c (by revert c; decide))⟩, ?_, ?_, ?_, ?_, ?_, hto, ht, ?_, r10⟩
  · unfold okC at *; rw [o 38 (by decide), o 45 (by decide)]; exact a1
  · unfold okT okL okM at *
    rw [k 18 (by decide), o 74 (by decide), o 86 (by decide), o 87 (by decide), o 88 (by decide), o 89 (by decide), o 90 (by decide), o 91 (by decide), o 92 (by decide), o 93 (by decide), o 94 (by decide)]
    exact a2
  · unfold twC twM at *
    rw [o 38 (by decide), o 41 (by decide), o 42 (by decide), o 43 (by decide), o 46 (by decide), o 47 (by decide), o 48 (by decide), o 77 (by decide), o 78 (by decide), o 79 (by decide), o 84 (by decide)]; exact a3
  · rw [o 38 (by decide), o 80 (by decide)]; exact a4
  · rw [o 38 (by decide), o 85 (by decide)]; exact a5
  · unfold rMo at *; rw [o 38 (by decide), o 44 (by decide), o 81 (by decide), o 82 (by decide)]; exact r2
  · unfold rHd at *; rw [o 41 (by decide), o 42 (by decide), o 43 (by decide), o 77 (by decide), o 78 (by decide), o 79 (by decide)]; exact r3
  · unfold cEq at *; rw [o 11 (by decide), o 12 (by decide), o 13 (by decide), o 14 (by decide), o 15 (by decide), o 16 (by decide), o 98 (by decide)]; exact r4
  · unfold rPa okK at *; rw [o 17 (by decide), o 18 (by decide), k 57 (by decide), o 103 (by decide)]; exact r5
  · exact rHl_of r6 (o 19 (by decide)) (o 20 (by decide)) (o 107 (by decide)) (o 108 (by decide))
  · rw [o 0 (by decide), k 17 (by decide)]; exact r9
theorem q_feed (a b c d e : Int32) : cOK m_X11_feed m_X12_feed [.int a, .int b, .int c, .int d, .int e] := by
  intro G x y σ τ ⟨h, sz, L, LF, pr, hR⟩
  obtain ⟨n, t1, t2, t3, t4⟩ := hR.2.2.2.2.2.2.2.1
  refine ⟨_, c_feed t1 t3, ?_⟩
  rintro v r1 σ1 τ1 ⟨rfl, rfl, ⟨bad, rfl, rfl⟩ | ⟨ok, rfl, o1, e2, e1⟩⟩
  · refine ⟨-1, rfl, rfl, _, d_feed t2 t3, ?_⟩
    rintro v' r2 σ2 τ2 ⟨rfl, rfl, ⟨-, rfl, rfl⟩ | ⟨ok, -⟩⟩
    · exact ⟨rfl, rfl, h, sz, L, LF, pr, hR⟩
    · exact absurd ok bad
  · refine ⟨nI (n + 20), rfl, rfl, _, d_feed (n := n) (by rw [o1 64 (by decide)]; exact t2) t3, ?_⟩
    rintro v' r2 σ2 τ2 ⟨rfl, rfl, ⟨bad, -⟩ | ⟨-, rfl, o2, s1, s2⟩⟩
    · exact absurd ok bad
    · have o3 := off_tr o1 o2 (Z := [1, 2, 35, 36, 37, 64, 65, 105, 106]) (by decide) (by decide)
      refine ⟨rfl, rfl, R2_tape hR o3 (fun j hj => by rw [s2, pk_un (by rintro rfl; revert hj; decide), o1 64 (by decide)]) ?_ ?_⟩
      · refine ⟨n + 20, by rw [o2 1 (by decide)]; exact e1, by rw [s2, pk_us], ok, ?_⟩
        rw [o2 2 (by decide), e2, s1, o1 65 (by decide)]
        exact bEq_fed t4
      · exact rTo_of hR.2.2.2.2.2.2.1 ((o2 35 (by decide)).trans (o1 35 (by decide))) ((o2 36 (by decide)).trans (o1 36 (by decide))) ((o2 37 (by decide)).trans (o1 37 (by decide))) (by rw [s2, pk_un (by decide), o1 64 (by decide)]) ((o2 105 (by decide)).trans (o1 105 (by decide))) ((o2 106 (by decide)).trans (o1 106 (by decide)))
theorem q_back (n : Int32) : cOK m_X11_back m_X12_back [.int n] := by
  intro G x y σ τ ⟨h, sz, L, LF, pr, hR⟩
  obtain ⟨len, t1, t2, t3, t4⟩ := hR.2.2.2.2.2.2.2.1
  have hin : ∀ i, i ≤ len → inI 0 (nI len) (nI i) = true := fun i hi => decide_eq_true ⟨nI_pos' (by omega), (nI_leI (by omega) (by omega)).mpr hi⟩
  refine ⟨_, c_back t1 t3, ?_⟩
  rintro v r1 σ1 τ1 ⟨rfl, rfl, ⟨bad, rfl, rfl⟩ | ⟨i, hi, rfl, rfl, rfl⟩⟩
  · refine ⟨-1, rfl, rfl, _, d_back t2 t3, ?_⟩
    rintro v' r2 σ2 τ2 ⟨rfl, rfl, ⟨-, rfl, rfl⟩ | ⟨i, hi, rfl, -⟩⟩
    · exact ⟨rfl, rfl, h, sz, L, LF, pr, hR⟩
    · exact absurd (hin i hi) bad
  · refine ⟨nI (len - i), rfl, rfl, _, d_back (len := len) (by rw [hva_ne (by decide)]; exact t2) t3, ?_⟩
    rintro v' r2 σ2 τ2 ⟨rfl, rfl, ⟨bad, -⟩ | ⟨i', hi', e, rfl, rfl⟩⟩
    · exact absurd (hin i hi) bad
    · obtain rfl := (nI_eq (by omega) (by omega)).mp e
      have o3 : ∀ k, k ∉ [1, 2, 35, 36, 37, 64, 65, 105, 106] → va_up (va_up σ 1 (upd (σ 1) 1 (nI (len - i)))) 64 (upd (va_up σ 1 (upd (σ 1) 1 (nI (len - i))) 64) 2 (nI (len - i))) k = σ k := off_up (off_up (fun _ _ => rfl) (by decide)) (by decide)
      refine ⟨rfl, rfl, R2_tape hR o3 (fun j hj => ?_) ?_ ?_⟩
      · rw [hup_eq, pk_un (by rintro rfl; revert hj; decide), hva_ne (by decide)]
      · refine ⟨len - i, by rw [hva_ne (by decide), hup_eq, pk_us], by rw [hup_eq, pk_us], by omega, fun q hq => ?_⟩
        rw [hva_ne (by decide), hva_ne (by decide), hva_ne (by decide), hva_ne (by decide)]
        exact t4 q (by omega)
      · refine rTo_of hR.2.2.2.2.2.2.1 ?_ ?_ ?_ ?_ ?_ ?_
        · rw [hva_ne (by decide), hva_ne (by decide)]
        · rw [hva_ne (by decide), hva_ne (by decide)]
        · rw [hva_ne (by decide), hva_ne (by decide)]
        · rw [hup_eq, pk_un (by decide), hva_ne (by decide)]
        · rw [hva_ne (by decide), hva_ne (by decide)]
        · rw [hva_ne (by decide), hva_ne (by decide)]
theorem q_tell (a v : Int32) (hv : v = 0 ∨ v = 1) : cOK m_X11_tell m_X12_tell [.int a, .int v] := by
  intro G x y σ τ ⟨h, sz, L, LF, pr, hR⟩
  have h7 := r_7 hR
  obtain ⟨td, th, ta, t1, t2, t3, t4, t5⟩ := hR.2.2.2.2.2.2.1
  obtain ⟨L1, L2, L3, L4, -⟩ := hR.1.2.1
  refine ⟨_, c_tell (r_c hR).1 h7 t1 t3 hv, ?_⟩
  rintro v' r1 σ1 τ1 ⟨rfl, rfl, o1, ⟨hh, htd, rfl, e1, e2, e3⟩ | ⟨bad, rfl, rfl⟩⟩
  · refine ⟨nI td, rfl, rfl, _, d_tell (td := td) (by rw [o1 64 (by decide)]; exact L1) L2 (by rw [o1 74 (by decide)]; exact L3) h7 (by rw [o1 64 (by decide)]; exact t2) t3 hv, ?_⟩
    rintro v' r2 σ2 τ2 ⟨rfl, rfl, o2, ⟨-, -, rfl, s1, s2, s3⟩ | ⟨bad, -⟩⟩
    · have o3 := off_tr o1 o2 (Z := [1, 2, 35, 36, 37, 64, 65, 105, 106]) (by decide) (by decide)
      refine ⟨rfl, rfl, R2_tape hR o3 (fun j hj => by rw [s3, pk_un (by rintro rfl; revert hj; decide), o1 64 (by decide)]) ?_ ?_⟩
      · have := hR.2.2.2.2.2.2.2.1
        unfold rTp at *
        rw [o2 1 (by decide), o2 2 (by decide), o2 65 (by decide), o1 1 (by decide), o1 2 (by decide), o1 65 (by decide), s3, pk_un (by decide), o1 64 (by decide)]
        exact this
      · obtain ⟨i, hi, rfl⟩ := isH_ix h7 hh
        refine ⟨td + 1, upN th td i, upd ta td v, by rw [o2 35 (by decide)]; exact e3, by rw [s3, pk_us], by omega, fun j hj => ?_, fun j hj => ?_⟩
        · rw [o2 36 (by decide), o2 37 (by decide), e1, e2]
          by_cases q : j = td
          · subst q; rw [pk_us, pk_us, pk_us, upN_eq]; exact ⟨rfl, by omega, rfl⟩
          · rw [pk_un q, pk_un q, pk_un q, upN_ne q]; exact t4 j (by omega)
        · rw [s1, s2, o1 105 (by decide), o1 106 (by decide)]
          by_cases q : j = td
          · subst q; rw [pk_us, pk_us, pk_us, upN_eq]; exact ⟨rfl, by omega, rfl⟩
          · rw [pk_un q, pk_un q, pk_un q, upN_ne q]; exact t5 j (by omega)
    · exact absurd ⟨hh, htd⟩ bad
  · refine ⟨-1, rfl, rfl, _, d_tell L1 L2 L3 h7 t2 t3 hv, ?_⟩
    rintro v' r2 σ2 τ2 ⟨rfl, rfl, o2, ⟨hh, htd, -⟩ | ⟨-, rfl, rfl⟩⟩
    · exact absurd ⟨hh, htd⟩ bad
    · exact ⟨rfl, rfl, h, sz, L, LF, pr, hR⟩
theorem q_forget : cOK m_X11_forget m_X12_forget [] := by
  intro G x y σ τ ⟨h, sz, L, LF, pr, hR⟩
  obtain ⟨td, th, ta, t1, t2, t3, t4, t5⟩ := hR.2.2.2.2.2.2.1
  refine ⟨_, c_forget, ?_⟩
  rintro v' r1 σ1 τ1 ⟨rfl, rfl, rfl, o1, e1⟩
  refine ⟨σ 35 2, rfl, rfl, _, d_forget, ?_⟩
  rintro v' r2 σ2 τ2 ⟨rfl, rfl, rfl, rfl⟩
  have o3 : ∀ k, k ∉ [1, 2, 35, 36, 37, 64, 65, 105, 106] → va_up σ1 64 (upd (σ1 64) 61 0) k = σ k := off_up (off_wk o1 (by decide)) (by decide)
  refine ⟨by rw [o1 64 (by decide), t1, t2], rfl, R2_tape hR o3 (fun j hj => ?_) ?_ ?_⟩
  · rw [hup_eq, pk_un (by rintro rfl; revert hj; decide), o1 64 (by decide)]
  · have := hR.2.2.2.2.2.2.2.1
    unfold rTp at *
    rw [hva_ne (show (1 : Nat) ≠ 64 by decide), hva_ne (show (65 : Nat) ≠ 64 by decide), hva_ne (show (2 : Nat) ≠ 64 by decide), hup_eq, pk_un (by decide), o1 1 (by decide), o1 2 (by decide), o1 65 (by decide), o1 64 (by decide)]
    exact this
  · exact ⟨0, th, ta, by rw [hva_ne (by decide)]; exact e1, by rw [hup_eq, pk_us]; rfl, by omega, fun i hi => absurd hi (Nat.not_lt_zero _), fun i hi => absurd hi (Nat.not_lt_zero _)⟩

