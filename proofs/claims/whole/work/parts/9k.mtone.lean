abbrev m_X12_tellOne (Q : hPo) : hMe := (hrm 6, 0, 0, yX12_tellOne, cX12_tellOne, 2, (none : Option FieldType), shp, none, Q)
abbrev m_X12_read (Q : hPo) : hMe := (hrm 7, 0, 0, yX12_read, cX12_read, 2, (some FieldType.int), shp, none, Q)
theorem kap_big : ∀ k, k < 36 → 11 ≤ k → ((nI (kap k)).toInt < 20 ∨ 30 < (nI (kap k)).toInt) ∧ (nI (kap k) - 23 < 0 ∨ (¬ nI (kap k) - 23 < 0 ∧ ¬ nI (kap k) ≤ 27)) := by decide +kernel
theorem tl_ok {K V : Nat → Nat} {h r m a b : Nat} {l : Option (Nat × hLw)} (ha : a ≤ 400) (hX : tellX K V h r m a = .inr (b, l)) : tlP K a b l := by
  have := tellX_ok K V h r m a ha
  rw [hX] at this
  exact this.2.2.2
theorem bdn_inr {s : hPR Unit} {b : Nat} {l : Option (Nat × hLw)} (h : bd s (fun a _ => (.inr (a, none) : hPR (Option (Nat × hLw)))) = .inr (b, l)) : s = .inr (b, ()) ∧ l = none := by
  rcases s with e | ⟨a, u⟩
  · cases h
  · cases h; exact ⟨rfl, rfl⟩
theorem heT_off {w : hF} {L j : Nat} {o1 o2 : Option Nat} (h : ∀ i, o1 = some i → j ≠ 7 * L + i) : heT w L o1 o2 j = w j := by
  rcases o1 with _ | i
  · rfl
  · rcases o2 with _ | k
    · rfl
    · exact pk_un (h i rfl)
def hlfA (L : Nat) (σ σ' : hS) : List (Nat × Nat) → Prop
  | [] => True
  | (c, w) :: t => (∀ j, j < w * L ∨ w * L + w ≤ j → σ' c j = σ c j) ∧ hlfA L σ σ' t
theorem hlfA_m {L : Nat} {σ σ' : hS} {c w : Nat} : ∀ R : List (Nat × Nat), hlfA L σ σ' R → (c, w) ∈ R → ∀ j, j < w * L ∨ w * L + w ≤ j → σ' c j = σ c j
  | [], _, hm => by cases hm
  | (c', w') :: t, h, hm => by
    rcases List.mem_cons.mp hm with q | q
    · cases q; exact h.1
    · exact hlfA_m t h.2 q
theorem hlf_in {X : List Nat} {R : List (Nat × Nat)} {L : Nat} {σ σ' : hS} (o : ∀ k, k ∉ X → σ' k = σ k) (hR : rowW.all (fun q => !X.contains q.1 || R.contains q) = true) (h : hlfA L σ σ' R) : hlf L σ σ' := by
  intro c w hm j hj
  have q := List.all_eq_true.mp hR (c, w) hm
  by_cases e : c ∈ X
  · exact hlfA_m R h (by simpa [e] using q) j hj
  · rw [o c e]
abbrev fTo : List Nat := [11, 12, 13, 14, 15, 16, 20, 37, 43, 47]
abbrev xTo : List Nat := [64, 73, 74, 75, 76, 77, 78, 79, 80, 81, 82, 83, 84, 85, 86, 87, 88, 89, 90, 91, 92, 93, 94, 95]
def pTo (f : hF) (n L h r m a : Nat) (X : Sum (Nat × Nat) hSm) (Ls : hLs) (r0 : hR) (σ : hS) (τ : hT) : hPo := fun v' r' σ' τ' => v' = none ∧ r' = r0 ∧ (∀ c, c ∉ xTo → σ' c = σ c) ∧ (∀ c, c ∉ [72] → τ' c = τ c) ∧ kM fTo σ σ' ∧ hlf L σ σ' ∧ mSt f n (stR (tellX (kd f n) (vl f n) h r m a)) σ' ∧ ∀ b l, tellX (kd f n) (vl f n) h r m a = .inr (b, l) → rdI f n L (cnt (kd f n) 0 h a) (cnt (kd f n) 1 r a) (cnt (kd f n) 2 m a) b (stX (kd f n) (vl f n) (dg f n) X a b) (setL Ls l) σ' τ'
theorem smI_of {f : hF} {n L h r m a : Nat} {dT : Nat → Nat} {ix : Nat → Option Nat} {X : Sum (Nat × Nat) hSm} {σ σ' : hS} (hI : smI f n L h r m a dT ix X σ) (o : ∀ k, k ∉ [64] → σ' k = σ k) (k : kM [11, 13, 14] σ σ') : smI f n L h r m a dT ix X σ' := by
  rcases X with e | S
  · exact ⟨wSt_of hI.1 (k 15 (by decide)) (k 16 (by decide)), hI.2⟩
  · exact ⟨wSt_of hI.1 (k 15 (by decide)) (k 16 (by decide)), hI.2.1, hI.2.2.1, hI.2.2.2.1, mTab_of hI.2.2.2.2 o (by decide)⟩
theorem rdI_of {f : hF} {n L h r m a : Nat} {X : Sum (Nat × Nat) hSm} {Ls : hLs} {σ σ' : hS} {τ : hT} (hI : rdI f n L h r m a X Ls σ τ) (o : ∀ k, k ∉ [64] → σ' k = σ k) (k : kM [11, 13, 14] σ σ') : rdI f n L h r m a X Ls σ' τ := by
  obtain ⟨⟨h1, h2, h3, h4, h5⟩, ⟨dT, ix, h6, h7⟩, h8⟩ := hI
  exact ⟨⟨(k 19 (by decide)).trans h1, by rw [o 74 (by decide)]; exact h2, by rw [o 80 (by decide)]; exact h3, by rw [o 81 (by decide)]; exact h4, h5⟩, ⟨dT, ix, nmM_of h6 (k 20 (by decide)) (o 73 (by decide)), smI_of h7 o k⟩, lwI_of h8 (Nat.le_refl _) o (by decide) k (by decide)⟩
section S9k
variable {G : hGl} {σ : hS} {τ : hT} {x y : Option Nat}
theorem d_tellOne {f : hF} {n L h r m a : Nat} {X : Sum (Nat × Nat) hSm} {Ls : hLs} (ht : tokM f n σ τ) (hn : n ≤ 2000) (hL : L < 2) (hs : mSt f n (.inr (a, ())) σ) (h25 : kd f n a ≠ 25) (hI : rdI f n L h r m a X Ls σ τ) : hCal G (m_X12_tellOne (pTo f n L h r m a X Ls (rr 38 51 x y) σ τ)) [.ref (hgA G 64)] shp (rr 38 51 x y) σ τ := by
  have hI0 := hI
  obtain ⟨⟨h19, h74, h80, h81, hr16⟩, ⟨dT, ix, hN, hS⟩, hW⟩ := hI
  have hs0 := hs
  obtain ⟨h13, h11, hrel⟩ := hs
  have ha := hrel.1
  have h67 := (ht a hrel).1
  have h7 := hN.2.1
  have h5 := hN.2.2.1
  refine hv_enter pn_X12 rfl ?_
  by_cases k0 : kd f n a = 0
  · have hk : kd f n a ≠ 25 ∧ kd f n a ≠ 26 := by omega
    have c1 : cnt (kd f n) 0 h a = h + 1 := if_pos k0
    have c2 : cnt (kd f n) 1 r a = r := if_neg (by omega)
    have c3 : cnt (kd f n) 2 m a = m := if_neg (by omega)
    rcases (show (h = 7 ∨ ¬ a < 400) ∨ (h ≠ 7 ∧ a < 400) by omega) with e | ⟨e, e4⟩
    · obtain ⟨eT, eR⟩ : tellX (kd f n) (vl f n) h r m a = .inl (2, a) ∧ roX h 7 a = .inl (2, a) := by
        unfold tellX roX
        rw [if_pos k0]
        by_cases e7 : h = 7
        · rw [if_pos (by omega), if_pos e7]; exact ⟨rfl, rfl⟩
        · rw [if_neg (by omega), if_neg e7]
          have : pass a = .inl (2, a) := if_neg (by omega)
          rw [this]; exact ⟨rfl, rfl⟩
      refine hv_aload_n dX12_tellOne_0 rfl ?_
      refine hv_getr dX12_tellOne_1 fl_X12_20 (by first | rfl | assumption) rfl (by first | rfl | assumption) ?_
      refine hv_aload_n dX12_tellOne_4 rfl ?_
      refine hv_geti dX12_tellOne_5 fl_X12_206 (by first | rfl | assumption) rfl ?_
      refine hv_iald dX12_tellOne_8 (by first | rfl | assumption) (j := a) h11 (by omega) (by first | decide | assumption) ?_
      rw [h67, k0]
      refine hv_tin (off := 59) (tgt := 68) (i := 0) (v := 20) dX12_tellOne_9 ((by decide)) (by decide) (by decide) (by decide) (by decide) ?_
      refine hv_aload_n dX12_tellOne_68 rfl ?_
      refine hv_aload_n dX12_tellOne_69 rfl ?_
      refine hv_getr dX12_tellOne_70 fl_X12_46 (by first | rfl | assumption) rfl (by first | rfl | assumption) ?_
      refine hv_aload_n dX12_tellOne_73 rfl ?_
      refine hv_geti dX12_tellOne_74 fl_X12_236 (by first | rfl | assumption) rfl ?_
      refine hv_iald dX12_tellOne_77 (by first | rfl | assumption) (j := L) h19 (by omega) (by first | decide | assumption) ?_
      rw [h74]
      refine hv_bipush (v := 7) dX12_tellOne_78 (by decide) ?_
      refine hv_cv2 (d_roomFor (c := h) (m := 7) rfl rfl (by omega) (by decide) ht hs0 hk) dX12_tellOne_80 ml_X12_264 mk_X12_roomFor (by first | rfl | assumption) rfl rfl rfl rfl rfl ?_
      rintro _ _ σ1 _ ⟨rfl, rfl, rfl, a1, a2, a3⟩
      rw [eR] at a3
      refine hv_aload_n dX12_tellOne_83 rfl ?_
      refine hv_geti dX12_tellOne_84 fl_X12_203 (by first | rfl | assumption) rfl ?_
      refine hv_if_ne (tgt := 266) dX12_tellOne_87 (by decide) (fun c_87 => ?_) (fun c_87 => absurd c_87 ((by rw [a3.1]; decide)))
      refine hv_vret dX12_tellOne_266 rfl ?_
      refine ⟨rfl, rfl, off_wk a1 (by decide), fun _ _ => rfl, kM_tr a2 kM_rf (Y := []) (by decide) (by decide), hlf_64 a1, by rw [eT]; exact a3, fun b l q => by rw [eT] at q; cases q⟩
    · have eT : tellX (kd f n) (vl f n) h r m a = bd (hsX (kd f n) (a + 1)) (fun b _ => .inr (b, none)) := by
        unfold tellX hsX
        rw [if_pos k0, if_neg (by omega), show pass a = .inr (a + 1, ()) from if_pos e4]
        simp only [bd_assoc, bd_inr]
      have eR : roX h 7 a = .inr (a + 1, ()) := by unfold roX; rw [if_neg e]; exact if_pos e4
      refine hv_aload_n dX12_tellOne_0 rfl ?_
      refine hv_getr dX12_tellOne_1 fl_X12_20 (by first | rfl | assumption) rfl (by first | rfl | assumption) ?_
      refine hv_aload_n dX12_tellOne_4 rfl ?_
      refine hv_geti dX12_tellOne_5 fl_X12_206 (by first | rfl | assumption) rfl ?_
      refine hv_iald dX12_tellOne_8 (by first | rfl | assumption) (j := a) h11 (by omega) (by first | decide | assumption) ?_
      rw [h67, k0]
      refine hv_tin (off := 59) (tgt := 68) (i := 0) (v := 20) dX12_tellOne_9 ((by decide)) (by decide) (by decide) (by decide) (by decide) ?_
      refine hv_aload_n dX12_tellOne_68 rfl ?_
      refine hv_aload_n dX12_tellOne_69 rfl ?_
      refine hv_getr dX12_tellOne_70 fl_X12_46 (by first | rfl | assumption) rfl (by first | rfl | assumption) ?_
      refine hv_aload_n dX12_tellOne_73 rfl ?_
      refine hv_geti dX12_tellOne_74 fl_X12_236 (by first | rfl | assumption) rfl ?_
      refine hv_iald dX12_tellOne_77 (by first | rfl | assumption) (j := L) h19 (by omega) (by first | decide | assumption) ?_
      rw [h74]
      refine hv_bipush (v := 7) dX12_tellOne_78 (by decide) ?_
      refine hv_cv2 (d_roomFor (c := h) (m := 7) rfl rfl (by omega) (by decide) ht hs0 hk) dX12_tellOne_80 ml_X12_264 mk_X12_roomFor (by first | rfl | assumption) rfl rfl rfl rfl rfl ?_
      rintro _ _ σ1 _ ⟨rfl, rfl, rfl, a1, a2, a3⟩
      rw [eR] at a3
      have S1 := smI_of hS a1 a2
      have N1 := nmM_of hN (a2 20 (by decide)) (a1 73 (by decide))
      refine hv_aload_n dX12_tellOne_83 rfl ?_
      refine hv_geti dX12_tellOne_84 fl_X12_203 (by first | rfl | assumption) rfl ?_
      refine hv_if_ne (tgt := 266) dX12_tellOne_87 (by decide) (fun c_87 => absurd (a3.1) c_87) (fun c_87 => ?_)
      refine hv_aload_n dX12_tellOne_90 rfl ?_
      refine hv_cv0 (d_tellHouse (L := L) (h := h) (m := m) (a := a + 1) (u := ()) (tokM_of ht a1 (by decide)) hn a3 (smI_w S1) (smI_b S1 (by omega)) N1 ((a2 19 (by decide)).trans h19) hL (by rw [a1 74 (by decide)]; exact h74) (by omega)) dX12_tellOne_91 ml_X12_268 mk_X12_tellHouse (by first | rfl | assumption) rfl rfl rfl rfl rfl ?_
      rintro v2 r2 σ2 τ2 P
      have P0 := P
      obtain ⟨rfl, rfl, b1, b2, b3, ⟨f74, f75, f76, f77, f78⟩, b4, b5⟩ := P
      refine hv_goto (tgt := 266) dX12_tellOne_94 (by decide) ?_
      refine hv_vret dX12_tellOne_266 rfl ?_
      refine ⟨rfl, rfl, off_tr a1 b1 (by decide) (by decide), b2, kM_tr a2 b3 (by decide) (by decide), hlf_tr (hlf_64 a1) ?_, ?_, ?_⟩
      · exact hlf_in (R := [(74, 1), (75, 7), (76, 7), (77, 7), (78, 7)]) b1 (by decide) ⟨fun j hj => f74 j (by omega), fun j hj => f75 j (by omega), fun j hj => f76 j (by omega), fun j hj => f77 j (by omega), fun j hj => f78 j (by omega), trivial⟩
      · rw [eT, stR_bdn, stR_unit]; exact b4
      · intro b l hX
        have hp := tl_ok ha hX
        rw [eT] at hX
        obtain ⟨hx, rfl⟩ := bdn_inr hX
        obtain rfl := (hp.2.2.1 k0).1
        have W1 := lwI_of hW (Nat.le_refl a) a1 (by decide) a2 (by decide)
        rw [c1, c2, c3]
        refine ⟨⟨(b3 19 (by decide)).trans ((a2 19 (by decide)).trans h19), (b5 _ _ hx).1.1, by rw [b1 80 (by decide), a1 80 (by decide)]; exact h80, by rw [b1 81 (by decide), a1 81 (by decide)]; exact h81, hr16⟩, st_house S1 N1 k0 (by omega) hp hx P0, lwI_of W1 (by omega) b1 (by decide) b3 (by decide)⟩
  by_cases k1 : kd f n a = 1
  · have hk : kd f n a ≠ 25 ∧ kd f n a ≠ 26 := by omega
    have c1 : cnt (kd f n) 0 h a = h := if_neg (by omega)
    have c2 : cnt (kd f n) 1 r a = r + 1 := if_pos k1
    have c3 : cnt (kd f n) 2 m a = m := if_neg (by omega)
    rcases (show (r = 16 ∨ ¬ a < 400) ∨ (r ≠ 16 ∧ a < 400) by omega) with e | ⟨e, e4⟩
    · obtain ⟨eT, eR⟩ : tellX (kd f n) (vl f n) h r m a = .inl (2, a) ∧ roX r 16 a = .inl (2, a) := by
        unfold tellX roX
        rw [if_neg (by omega), if_pos k1]
        by_cases e7 : r = 16
        · rw [if_pos (by omega), if_pos e7]; exact ⟨rfl, rfl⟩
        · rw [if_neg (by omega), if_neg e7]
          have : pass a = .inl (2, a) := if_neg (by omega)
          rw [this]; exact ⟨rfl, rfl⟩
      refine hv_aload_n dX12_tellOne_0 rfl ?_
      refine hv_getr dX12_tellOne_1 fl_X12_20 (by first | rfl | assumption) rfl (by first | rfl | assumption) ?_
      refine hv_aload_n dX12_tellOne_4 rfl ?_
      refine hv_geti dX12_tellOne_5 fl_X12_206 (by first | rfl | assumption) rfl ?_
      refine hv_iald dX12_tellOne_8 (by first | rfl | assumption) (j := a) h11 (by omega) (by first | decide | assumption) ?_
      rw [h67, k1]
      refine hv_tin (off := 88) (tgt := 97) (i := 1) (v := 21) dX12_tellOne_9 ((by decide)) (by decide) (by decide) (by decide) (by decide) ?_
      refine hv_aload_n dX12_tellOne_97 rfl ?_
      refine hv_aload_n dX12_tellOne_98 rfl ?_
      refine hv_getr dX12_tellOne_99 fl_X12_64 (by first | rfl | assumption) rfl (by first | rfl | assumption) ?_
      refine hv_aload_n dX12_tellOne_102 rfl ?_
      refine hv_geti dX12_tellOne_103 fl_X12_236 (by first | rfl | assumption) rfl ?_
      refine hv_iald dX12_tellOne_106 (by first | rfl | assumption) (j := L) h19 (by omega) (by first | decide | assumption) ?_
      rw [h80]
      refine hv_bipush (v := 16) dX12_tellOne_107 (by decide) ?_
      refine hv_cv2 (d_roomFor (c := r) (m := 16) rfl rfl (by omega) (by decide) ht hs0 hk) dX12_tellOne_109 ml_X12_264 mk_X12_roomFor (by first | rfl | assumption) rfl rfl rfl rfl rfl ?_
      rintro _ _ σ1 _ ⟨rfl, rfl, rfl, a1, a2, a3⟩
      rw [eR] at a3
      refine hv_aload_n dX12_tellOne_112 rfl ?_
      refine hv_geti dX12_tellOne_113 fl_X12_203 (by first | rfl | assumption) rfl ?_
      refine hv_if_ne (tgt := 266) dX12_tellOne_116 (by decide) (fun c_116 => ?_) (fun c_116 => absurd c_116 ((by rw [a3.1]; decide)))
      refine hv_vret dX12_tellOne_266 rfl ?_
      refine ⟨rfl, rfl, off_wk a1 (by decide), fun _ _ => rfl, kM_tr a2 kM_rf (Y := []) (by decide) (by decide), hlf_64 a1, by rw [eT]; exact a3, fun b l q => by rw [eT] at q; cases q⟩
    · have eT : tellX (kd f n) (vl f n) h r m a = bd (hrX (kd f n) (a + 1)) (fun b _ => .inr (b, none)) := by
        unfold tellX hrX
        rw [if_neg (by omega), if_pos k1, if_neg (by omega), show pass a = .inr (a + 1, ()) from if_pos e4]
        simp only [bd_assoc, bd_inr]
      have eR : roX r 16 a = .inr (a + 1, ()) := by unfold roX; rw [if_neg e]; exact if_pos e4
      refine hv_aload_n dX12_tellOne_0 rfl ?_
      refine hv_getr dX12_tellOne_1 fl_X12_20 (by first | rfl | assumption) rfl (by first | rfl | assumption) ?_
      refine hv_aload_n dX12_tellOne_4 rfl ?_
      refine hv_geti dX12_tellOne_5 fl_X12_206 (by first | rfl | assumption) rfl ?_
      refine hv_iald dX12_tellOne_8 (by first | rfl | assumption) (j := a) h11 (by omega) (by first | decide | assumption) ?_
      rw [h67, k1]
      refine hv_tin (off := 88) (tgt := 97) (i := 1) (v := 21) dX12_tellOne_9 ((by decide)) (by decide) (by decide) (by decide) (by decide) ?_
      refine hv_aload_n dX12_tellOne_97 rfl ?_
      refine hv_aload_n dX12_tellOne_98 rfl ?_
      refine hv_getr dX12_tellOne_99 fl_X12_64 (by first | rfl | assumption) rfl (by first | rfl | assumption) ?_
      refine hv_aload_n dX12_tellOne_102 rfl ?_
      refine hv_geti dX12_tellOne_103 fl_X12_236 (by first | rfl | assumption) rfl ?_
      refine hv_iald dX12_tellOne_106 (by first | rfl | assumption) (j := L) h19 (by omega) (by first | decide | assumption) ?_
      rw [h80]
      refine hv_bipush (v := 16) dX12_tellOne_107 (by decide) ?_
      refine hv_cv2 (d_roomFor (c := r) (m := 16) rfl rfl (by omega) (by decide) ht hs0 hk) dX12_tellOne_109 ml_X12_264 mk_X12_roomFor (by first | rfl | assumption) rfl rfl rfl rfl rfl ?_
      rintro _ _ σ1 _ ⟨rfl, rfl, rfl, a1, a2, a3⟩
      rw [eR] at a3
      have S1 := smI_of hS a1 a2
      have N1 := nmM_of hN (a2 20 (by decide)) (a1 73 (by decide))
      refine hv_aload_n dX12_tellOne_112 rfl ?_
      refine hv_geti dX12_tellOne_113 fl_X12_203 (by first | rfl | assumption) rfl ?_
      refine hv_if_ne (tgt := 266) dX12_tellOne_116 (by decide) (fun c_116 => absurd (a3.1) c_116) (fun c_116 => ?_)
      refine hv_aload_n dX12_tellOne_119 rfl ?_
      refine hv_cv0 (d_tellHears (L := L) (h := h) (m := m) (r := r) (a := a + 1) (u := ()) (tokM_of ht a1 (by decide)) hn a3 (smI_w S1) (smI_b S1 (by omega)) N1 ((a2 19 (by decide)).trans h19) hL (by rw [a1 80 (by decide)]; exact h80)) dX12_tellOne_120 ml_X12_271 mk_X12_tellHears (by first | rfl | assumption) rfl rfl rfl rfl rfl ?_
      rintro v2 r2 σ2 τ2 P
      have P0 := P
      obtain ⟨rfl, rfl, rfl, b1, b3, f80, b4, b6, b5⟩ := P
      refine hv_goto (tgt := 266) dX12_tellOne_123 (by decide) ?_
      refine hv_vret dX12_tellOne_266 rfl ?_
      refine ⟨rfl, rfl, off_tr a1 b1 (by decide) (by decide), fun _ _ => rfl, kM_tr a2 b3 (by decide) (by decide), hlf_tr (hlf_64 a1) ?_, ?_, ?_⟩
      · have f79 : ∀ j, j < 7 * L ∨ 7 * L + 7 ≤ j → σ2 79 j = σ1 79 j := by
          intro j hj
          rcases hx : hrX (kd f n) (a + 1) with e | ⟨b, u⟩
          · rw [b6 e hx]
          · rw [(b5 b u hx).2.1]
            exact heT_off (fun i q1 => by have := hsN_lt N1 (h + m) 0 i (by omega) q1; omega)
        exact hlf_in (R := [(80, 1), (79, 7)]) b1 (by decide) ⟨fun j hj => f80 j (by omega), f79, trivial⟩
      · rw [eT, stR_bdn, stR_unit]; exact b4
      · intro b l hX
        have hp := tl_ok ha hX
        rw [eT] at hX
        obtain ⟨hx, rfl⟩ := bdn_inr hX
        obtain rfl := (hp.2.2.2.1 k1).1
        have W1 := lwI_of hW (Nat.le_refl a) a1 (by decide) a2 (by decide)
        rw [c1, c2, c3]
        refine ⟨⟨(b3 19 (by decide)).trans ((a2 19 (by decide)).trans h19), by rw [b1 74 (by decide), a1 74 (by decide)]; exact h74, (b5 _ _ hx).1, by rw [b1 81 (by decide), a1 81 (by decide)]; exact h81, by omega⟩, st_hears S1 N1 k1 (by omega) hp hx P0, lwI_of W1 (by omega) b1 (by decide) b3 (by decide)⟩
  by_cases k2 : kd f n a = 2
  · have hk : kd f n a ≠ 25 ∧ kd f n a ≠ 26 := by omega
    have c1 : cnt (kd f n) 0 h a = h := if_neg (by omega)
    have c2 : cnt (kd f n) 1 r a = r := if_neg (by omega)
    have c3 : cnt (kd f n) 2 m a = m + 1 := if_pos k2
    rcases (show (m = 5 ∨ ¬ a < 400) ∨ (m ≠ 5 ∧ a < 400) by omega) with e | ⟨e, e4⟩
    · obtain ⟨eT, eR⟩ : tellX (kd f n) (vl f n) h r m a = .inl (2, a) ∧ roX m 5 a = .inl (2, a) := by
        unfold tellX roX
        rw [if_neg (by omega), if_neg (by omega), if_pos k2]
        by_cases e7 : m = 5
        · rw [if_pos (by omega), if_pos e7]; exact ⟨rfl, rfl⟩
        · rw [if_neg (by omega), if_neg e7]
          have : pass a = .inl (2, a) := if_neg (by omega)
          rw [this]; exact ⟨rfl, rfl⟩
      refine hv_aload_n dX12_tellOne_0 rfl ?_
      refine hv_getr dX12_tellOne_1 fl_X12_20 (by first | rfl | assumption) rfl (by first | rfl | assumption) ?_
      refine hv_aload_n dX12_tellOne_4 rfl ?_
      refine hv_geti dX12_tellOne_5 fl_X12_206 (by first | rfl | assumption) rfl ?_
      refine hv_iald dX12_tellOne_8 (by first | rfl | assumption) (j := a) h11 (by omega) (by first | decide | assumption) ?_
      rw [h67, k2]
      refine hv_tin (off := 117) (tgt := 126) (i := 2) (v := 22) dX12_tellOne_9 ((by decide)) (by decide) (by decide) (by decide) (by decide) ?_
      refine hv_aload_n dX12_tellOne_126 rfl ?_
      refine hv_aload_n dX12_tellOne_127 rfl ?_
      refine hv_getr dX12_tellOne_128 fl_X12_67 (by first | rfl | assumption) rfl (by first | rfl | assumption) ?_
      refine hv_aload_n dX12_tellOne_131 rfl ?_
      refine hv_geti dX12_tellOne_132 fl_X12_236 (by first | rfl | assumption) rfl ?_
      refine hv_iald dX12_tellOne_135 (by first | rfl | assumption) (j := L) h19 (by omega) (by first | decide | assumption) ?_
      rw [h81]
      refine hv_iconst (v := 5) dX12_tellOne_136 (by decide) ?_
      refine hv_cv2 (d_roomFor (c := m) (m := 5) rfl rfl (by omega) (by decide) ht hs0 hk) dX12_tellOne_137 ml_X12_264 mk_X12_roomFor (by first | rfl | assumption) rfl rfl rfl rfl rfl ?_
      rintro _ _ σ1 _ ⟨rfl, rfl, rfl, a1, a2, a3⟩
      rw [eR] at a3
      refine hv_aload_n dX12_tellOne_140 rfl ?_
      refine hv_geti dX12_tellOne_141 fl_X12_203 (by first | rfl | assumption) rfl ?_
      refine hv_if_ne (tgt := 266) dX12_tellOne_144 (by decide) (fun c_144 => ?_) (fun c_144 => absurd c_144 ((by rw [a3.1]; decide)))
      refine hv_vret dX12_tellOne_266 rfl ?_
      refine ⟨rfl, rfl, off_wk a1 (by decide), fun _ _ => rfl, kM_tr a2 kM_rf (Y := []) (by decide) (by decide), hlf_64 a1, by rw [eT]; exact a3, fun b l q => by rw [eT] at q; cases q⟩
    · have eT : tellX (kd f n) (vl f n) h r m a = bd (moX (kd f n) (a + 1)) (fun b _ => .inr (b, none)) := by
        unfold tellX moX
        rw [if_neg (by omega), if_neg (by omega), if_pos k2, if_neg (by omega), show pass a = .inr (a + 1, ()) from if_pos e4]
        simp only [bd_assoc, bd_inr]
      have eR : roX m 5 a = .inr (a + 1, ()) := by unfold roX; rw [if_neg e]; exact if_pos e4
      refine hv_aload_n dX12_tellOne_0 rfl ?_
      refine hv_getr dX12_tellOne_1 fl_X12_20 (by first | rfl | assumption) rfl (by first | rfl | assumption) ?_
      refine hv_aload_n dX12_tellOne_4 rfl ?_
      refine hv_geti dX12_tellOne_5 fl_X12_206 (by first | rfl | assumption) rfl ?_
      refine hv_iald dX12_tellOne_8 (by first | rfl | assumption) (j := a) h11 (by omega) (by first | decide | assumption) ?_
      rw [h67, k2]
      refine hv_tin (off := 117) (tgt := 126) (i := 2) (v := 22) dX12_tellOne_9 ((by decide)) (by decide) (by decide) (by decide) (by decide) ?_
      refine hv_aload_n dX12_tellOne_126 rfl ?_
      refine hv_aload_n dX12_tellOne_127 rfl ?_
      refine hv_getr dX12_tellOne_128 fl_X12_67 (by first | rfl | assumption) rfl (by first | rfl | assumption) ?_
      refine hv_aload_n dX12_tellOne_131 rfl ?_
      refine hv_geti dX12_tellOne_132 fl_X12_236 (by first | rfl | assumption) rfl ?_
      refine hv_iald dX12_tellOne_135 (by first | rfl | assumption) (j := L) h19 (by omega) (by first | decide | assumption) ?_
      rw [h81]
      refine hv_iconst (v := 5) dX12_tellOne_136 (by decide) ?_
      refine hv_cv2 (d_roomFor (c := m) (m := 5) rfl rfl (by omega) (by decide) ht hs0 hk) dX12_tellOne_137 ml_X12_264 mk_X12_roomFor (by first | rfl | assumption) rfl rfl rfl rfl rfl ?_
      rintro _ _ σ1 _ ⟨rfl, rfl, rfl, a1, a2, a3⟩
      rw [eR] at a3
      have S1 := smI_of hS a1 a2
      have N1 := nmM_of hN (a2 20 (by decide)) (a1 73 (by decide))
      refine hv_aload_n dX12_tellOne_140 rfl ?_
      refine hv_geti dX12_tellOne_141 fl_X12_203 (by first | rfl | assumption) rfl ?_
      refine hv_if_ne (tgt := 266) dX12_tellOne_144 (by decide) (fun c_144 => absurd (a3.1) c_144) (fun c_144 => ?_)
      refine hv_aload_n dX12_tellOne_147 rfl ?_
      refine hv_cv0 (d_tellMotion (L := L) (h := h) (m := m) (a := a + 1) (u := ()) (tokM_of ht a1 (by decide)) hn a3 (smI_w S1) (smI_b S1 (by omega)) N1 ((a2 19 (by decide)).trans h19) hL (by rw [a1 81 (by decide)]; exact h81) (by omega)) dX12_tellOne_148 ml_X12_274 mk_X12_tellMotion (by first | rfl | assumption) rfl rfl rfl rfl rfl ?_
      rintro v2 r2 σ2 τ2 P
      have P0 := P
      obtain ⟨rfl, rfl, b1, b2, b3, ⟨f81, f82⟩, b4, b5⟩ := P
      refine hv_goto (tgt := 266) dX12_tellOne_151 (by decide) ?_
      refine hv_vret dX12_tellOne_266 rfl ?_
      refine ⟨rfl, rfl, off_tr a1 b1 (by decide) (by decide), b2, kM_tr a2 b3 (by decide) (by decide), hlf_tr (hlf_64 a1) ?_, ?_, ?_⟩
      · exact hlf_in (R := [(81, 1), (82, 5)]) b1 (by decide) ⟨fun j hj => f81 j (by omega), fun j hj => f82 j (by omega), trivial⟩
      · rw [eT, stR_bdn, stR_unit]; exact b4
      · intro b l hX
        have hp := tl_ok ha hX
        rw [eT] at hX
        obtain ⟨hx, rfl⟩ := bdn_inr hX
        have hp1 := hp.1
        have W1 := lwI_of hW (Nat.le_refl a) a1 (by decide) a2 (by decide)
        rw [c1, c2, c3]
        refine ⟨⟨(b3 19 (by decide)).trans ((a2 19 (by decide)).trans h19), by rw [b1 74 (by decide), a1 74 (by decide)]; exact h74, by rw [b1 80 (by decide), a1 80 (by decide)]; exact h80, (b5 _ _ hx).1.1, hr16⟩, st_motion S1 N1 k2 (by omega) hp hx P0, lwI_of W1 (by omega) b1 (by decide) b3 (by decide)⟩
  by_cases k8 : kd f n a = 8
  · have hk : kd f n a ≠ 25 ∧ kd f n a ≠ 26 := by omega
    have c1 : cnt (kd f n) 0 h a = h := if_neg (by omega)
    have c2 : cnt (kd f n) 1 r a = r := if_neg (by omega)
    have c3 : cnt (kd f n) 2 m a = m := if_neg (by omega)
    have eT : tellX (kd f n) (vl f n) h r m a = bd (bd (bd (pass a) (fun a _ => tk (kd f n) 24 a)) (fun a _ => tk (kd f n) 27 a)) (fun b _ => .inr (b, none)) := by
      unfold tellX
      rw [if_neg (by omega), if_neg (by omega), if_neg (by omega), if_neg (by omega), if_pos (by omega)]
      simp only [bd_assoc]
    refine hv_aload_n dX12_tellOne_0 rfl ?_
    refine hv_getr dX12_tellOne_1 fl_X12_20 (by first | rfl | assumption) rfl (by first | rfl | assumption) ?_
    refine hv_aload_n dX12_tellOne_4 rfl ?_
    refine hv_geti dX12_tellOne_5 fl_X12_206 (by first | rfl | assumption) rfl ?_
    refine hv_iald dX12_tellOne_8 (by first | rfl | assumption) (j := a) h11 (by omega) (by first | decide | assumption) ?_
    rw [h67, k8]
    refine hv_tin (off := 145) (tgt := 154) (i := 8) (v := 28) dX12_tellOne_9 ((by decide)) (by decide) (by decide) (by decide) (by decide) ?_
    refine hv_aload_n dX12_tellOne_154 rfl ?_
    refine hv_getr dX12_tellOne_155 fl_X12_73 (by first | rfl | assumption) rfl (by first | rfl | assumption) ?_
    refine hv_aload_n dX12_tellOne_158 rfl ?_
    refine hv_geti dX12_tellOne_159 fl_X12_236 (by first | rfl | assumption) rfl ?_
    refine hv_aload_n dX12_tellOne_162 rfl ?_
    refine hv_iconst (v := 0) dX12_tellOne_163 (by decide) ?_
    refine hv_sipush (v := 999) dX12_tellOne_164 (by decide) ?_
    refine hv_cv2 (d_toldInt (M := 999) rfl (by decide) ht hn hs0 hk (smI_w hS) (smI_b hS (Nat.le_refl _))) dX12_tellOne_167 ml_X12_277 mk_X12_toldInt (by first | rfl | assumption) rfl rfl rfl rfl rfl ?_
    rintro v2 r2 σ2 τ2 P
    have P0 := P
    obtain ⟨v, rfl, rfl, rfl, b1, b3, b4, b6, b5⟩ := P
    have o2 : ∀ c, c ∉ [64, 83] → va_up σ2 83 (upd (σ2 83) L v) c = σ c := off_up (off_wk b1 (by decide)) (by decide)
    have k2 : kM [11, 13, 14, 15, 16] σ (va_up σ2 83 (upd (σ2 83) L v)) := kM_c b3 (by decide)
    refine hv_iast dX12_tellOne_170 (by first | rfl | assumption) (j := L) h19 (by omega) (by first | decide | assumption) ?_
    refine hv_goto (tgt := 266) dX12_tellOne_171 (by decide) ?_
    refine hv_vret dX12_tellOne_266 rfl ?_
    refine ⟨rfl, rfl, off_wk o2 (by decide), fun _ _ => rfl, kM_tr k2 kM_rf (Y := []) (by decide) (by decide), ?_, ?_, ?_⟩
    · exact hlf_in (R := [(83, 1)]) o2 (by decide) ⟨fun j hj => by rw [hup_eq, pk_un (by omega), b1 _ (by decide)], trivial⟩
    · rw [eT, stR_bdn, stR_unit]
      exact mSt_of b4 (by rw [hva_ne (by decide)]) (by rw [hva_ne (by decide)]) (by rw [hva_ne (by decide)])
    · intro b l hX
      have hp := tl_ok ha hX
      rw [eT] at hX
      obtain ⟨hx, rfl⟩ := bdn_inr hX
      obtain rfl := (hp.2.2.2.2.2.1 (by omega)).1
      have hpa : pass a = .inr (a + 1, ()) := by
        rcases pass_cases a with ⟨_, q⟩ | ⟨_, q⟩
        · exact q
        · rw [q] at hx; cases hx
      rw [c1, c2, c3]
      exact ⟨⟨(k2 19 (by decide)).trans h19, by rw [o2 74 (by decide)]; exact h74, by rw [o2 80 (by decide)]; exact h80, by rw [o2 81 (by decide)]; exact h81, hr16⟩, st_int8 hS hN k8 hp hpa P0, lwI_of hW (by omega) o2 (by decide) k2 (by decide)⟩
  by_cases k9 : kd f n a = 9
  · have hk : kd f n a ≠ 25 ∧ kd f n a ≠ 26 := by omega
    have c1 : cnt (kd f n) 0 h a = h := if_neg (by omega)
    have c2 : cnt (kd f n) 1 r a = r := if_neg (by omega)
    have c3 : cnt (kd f n) 2 m a = m := if_neg (by omega)
    have eT : tellX (kd f n) (vl f n) h r m a = bd (bd (bd (pass a) (fun a _ => tk (kd f n) 24 a)) (fun a _ => tk (kd f n) 27 a)) (fun b _ => .inr (b, none)) := by
      unfold tellX
      rw [if_neg (by omega), if_neg (by omega), if_neg (by omega), if_neg (by omega), if_pos (by omega)]
      simp only [bd_assoc]
    refine hv_aload_n dX12_tellOne_0 rfl ?_
    refine hv_getr dX12_tellOne_1 fl_X12_20 (by first | rfl | assumption) rfl (by first | rfl | assumption) ?_
    refine hv_aload_n dX12_tellOne_4 rfl ?_
    refine hv_geti dX12_tellOne_5 fl_X12_206 (by first | rfl | assumption) rfl ?_
    refine hv_iald dX12_tellOne_8 (by first | rfl | assumption) (j := a) h11 (by omega) (by first | decide | assumption) ?_
    rw [h67, k9]
    refine hv_tin (off := 165) (tgt := 174) (i := 9) (v := 29) dX12_tellOne_9 ((by decide)) (by decide) (by decide) (by decide) (by decide) ?_
    refine hv_aload_n dX12_tellOne_174 rfl ?_
    refine hv_getr dX12_tellOne_175 fl_X12_76 (by first | rfl | assumption) rfl (by first | rfl | assumption) ?_
    refine hv_aload_n dX12_tellOne_178 rfl ?_
    refine hv_geti dX12_tellOne_179 fl_X12_236 (by first | rfl | assumption) rfl ?_
    refine hv_aload_n dX12_tellOne_182 rfl ?_
    refine hv_iconst (v := 0) dX12_tellOne_183 (by decide) ?_
    refine hv_bipush (v := 100) dX12_tellOne_184 (by decide) ?_
    refine hv_cv2 (d_toldInt (M := 100) rfl (by decide) ht hn hs0 hk (smI_w hS) (smI_b hS (Nat.le_refl _))) dX12_tellOne_186 ml_X12_277 mk_X12_toldInt (by first | rfl | assumption) rfl rfl rfl rfl rfl ?_
    rintro v2 r2 σ2 τ2 P
    have P0 := P
    obtain ⟨v, rfl, rfl, rfl, b1, b3, b4, b6, b5⟩ := P
    have o2 : ∀ c, c ∉ [64, 84] → va_up σ2 84 (upd (σ2 84) L v) c = σ c := off_up (off_wk b1 (by decide)) (by decide)
    have k2 : kM [11, 13, 14, 15, 16] σ (va_up σ2 84 (upd (σ2 84) L v)) := kM_c b3 (by decide)
    refine hv_iast dX12_tellOne_189 (by first | rfl | assumption) (j := L) h19 (by omega) (by first | decide | assumption) ?_
    refine hv_goto (tgt := 266) dX12_tellOne_190 (by decide) ?_
    refine hv_vret dX12_tellOne_266 rfl ?_
    refine ⟨rfl, rfl, off_wk o2 (by decide), fun _ _ => rfl, kM_tr k2 kM_rf (Y := []) (by decide) (by decide), ?_, ?_, ?_⟩
    · exact hlf_in (R := [(84, 1)]) o2 (by decide) ⟨fun j hj => by rw [hup_eq, pk_un (by omega), b1 _ (by decide)], trivial⟩
    · rw [eT, stR_bdn, stR_unit]
      exact mSt_of b4 (by rw [hva_ne (by decide)]) (by rw [hva_ne (by decide)]) (by rw [hva_ne (by decide)])
    · intro b l hX
      have hp := tl_ok ha hX
      rw [eT] at hX
      obtain ⟨hx, rfl⟩ := bdn_inr hX
      obtain rfl := (hp.2.2.2.2.2.1 (by omega)).1
      have hpa : pass a = .inr (a + 1, ()) := by
        rcases pass_cases a with ⟨_, q⟩ | ⟨_, q⟩
        · exact q
        · rw [q] at hx; cases hx
      rw [c1, c2, c3]
      exact ⟨⟨(k2 19 (by decide)).trans h19, by rw [o2 74 (by decide)]; exact h74, by rw [o2 80 (by decide)]; exact h80, by rw [o2 81 (by decide)]; exact h81, hr16⟩, st_int9 hS hN k9 hp hpa P0, lwI_of hW (by omega) o2 (by decide) k2 (by decide)⟩
  by_cases k10 : kd f n a = 10
  · have hk : kd f n a ≠ 25 ∧ kd f n a ≠ 26 := by omega
    have c1 : cnt (kd f n) 0 h a = h := if_neg (by omega)
    have c2 : cnt (kd f n) 1 r a = r := if_neg (by omega)
    have c3 : cnt (kd f n) 2 m a = m := if_neg (by omega)
    have eT : tellX (kd f n) (vl f n) h r m a = bd (bd (bd (pass a) (fun a _ => tk (kd f n) 24 a)) (fun a _ => tk (kd f n) 27 a)) (fun b _ => .inr (b, none)) := by
      unfold tellX
      rw [if_neg (by omega), if_neg (by omega), if_neg (by omega), if_neg (by omega), if_pos (by omega)]
      simp only [bd_assoc]
    refine hv_aload_n dX12_tellOne_0 rfl ?_
    refine hv_getr dX12_tellOne_1 fl_X12_20 (by first | rfl | assumption) rfl (by first | rfl | assumption) ?_
    refine hv_aload_n dX12_tellOne_4 rfl ?_
    refine hv_geti dX12_tellOne_5 fl_X12_206 (by first | rfl | assumption) rfl ?_
    refine hv_iald dX12_tellOne_8 (by first | rfl | assumption) (j := a) h11 (by omega) (by first | decide | assumption) ?_
    rw [h67, k10]
    refine hv_tin (off := 184) (tgt := 193) (i := 10) (v := 30) dX12_tellOne_9 ((by decide)) (by decide) (by decide) (by decide) (by decide) ?_
    refine hv_aload_n dX12_tellOne_193 rfl ?_
    refine hv_getr dX12_tellOne_194 fl_X12_79 (by first | rfl | assumption) rfl (by first | rfl | assumption) ?_
    refine hv_aload_n dX12_tellOne_197 rfl ?_
    refine hv_geti dX12_tellOne_198 fl_X12_236 (by first | rfl | assumption) rfl ?_
    refine hv_aload_n dX12_tellOne_201 rfl ?_
    refine hv_iconst (v := 0) dX12_tellOne_202 (by decide) ?_
    refine hv_sipush (v := 9999) dX12_tellOne_203 (by decide) ?_
    refine hv_cv2 (d_toldInt (M := 9999) rfl (by decide) ht hn hs0 hk (smI_w hS) (smI_b hS (Nat.le_refl _))) dX12_tellOne_206 ml_X12_277 mk_X12_toldInt (by first | rfl | assumption) rfl rfl rfl rfl rfl ?_
    rintro v2 r2 σ2 τ2 P
    have P0 := P
    obtain ⟨v, rfl, rfl, rfl, b1, b3, b4, b6, b5⟩ := P
    have o2 : ∀ c, c ∉ [64, 85] → va_up σ2 85 (upd (σ2 85) L v) c = σ c := off_up (off_wk b1 (by decide)) (by decide)
    have k2 : kM [11, 13, 14, 15, 16] σ (va_up σ2 85 (upd (σ2 85) L v)) := kM_c b3 (by decide)
    refine hv_iast dX12_tellOne_209 (by first | rfl | assumption) (j := L) h19 (by omega) (by first | decide | assumption) ?_
    refine hv_goto (tgt := 266) dX12_tellOne_210 (by decide) ?_
    refine hv_vret dX12_tellOne_266 rfl ?_
    refine ⟨rfl, rfl, off_wk o2 (by decide), fun _ _ => rfl, kM_tr k2 kM_rf (Y := []) (by decide) (by decide), ?_, ?_, ?_⟩
    · exact hlf_in (R := [(85, 1)]) o2 (by decide) ⟨fun j hj => by rw [hup_eq, pk_un (by omega), b1 _ (by decide)], trivial⟩
    · rw [eT, stR_bdn, stR_unit]
      exact mSt_of b4 (by rw [hva_ne (by decide)]) (by rw [hva_ne (by decide)]) (by rw [hva_ne (by decide)])
    · intro b l hX
      have hp := tl_ok ha hX
      rw [eT] at hX
      obtain ⟨hx, rfl⟩ := bdn_inr hX
      obtain rfl := (hp.2.2.2.2.2.1 (by omega)).1
      have hpa : pass a = .inr (a + 1, ()) := by
        rcases pass_cases a with ⟨_, q⟩ | ⟨_, q⟩
        · exact q
        · rw [q] at hx; cases hx
      rw [c1, c2, c3]
      exact ⟨⟨(k2 19 (by decide)).trans h19, by rw [o2 74 (by decide)]; exact h74, by rw [o2 80 (by decide)]; exact h80, by rw [o2 81 (by decide)]; exact h81, hr16⟩, st_int10 hS hN k10 hp hpa P0, lwI_of hW (by omega) o2 (by decide) k2 (by decide)⟩
  by_cases k3 : kd f n a = 3
  · have hk : kd f n a ≠ 25 ∧ kd f n a ≠ 26 := by omega
    have c1 : cnt (kd f n) 0 h a = h := if_neg (by omega)
    have c2 : cnt (kd f n) 1 r a = r := if_neg (by omega)
    have c3 : cnt (kd f n) 2 m a = m := if_neg (by omega)
    have eT : tellX (kd f n) (vl f n) h r m a = bd (bd (pass a) (fun a _ => lawX (kd f n) (vl f n) a)) (fun b l => .inr (b, some (0, l))) := by
      unfold tellX
      rw [if_neg (by omega), if_neg (by omega), if_neg (by omega), if_pos (by omega), k3, bd_assoc]
    have hW0 := hW
    obtain ⟨b0, p0, w37, w43, w12, w4, w5, w6⟩ := hW
    refine hv_aload_n dX12_tellOne_0 rfl ?_
    refine hv_getr dX12_tellOne_1 fl_X12_20 (by first | rfl | assumption) rfl (by first | rfl | assumption) ?_
    refine hv_aload_n dX12_tellOne_4 rfl ?_
    refine hv_geti dX12_tellOne_5 fl_X12_206 (by first | rfl | assumption) rfl ?_
    refine hv_iald dX12_tellOne_8 (by first | rfl | assumption) (j := a) h11 (by omega) (by first | decide | assumption) ?_
    rw [h67, k3]
    refine hv_tin (off := 204) (tgt := 213) (i := 3) (v := 23) dX12_tellOne_9 ((by decide)) (by decide) (by decide) (by decide) (by decide) ?_
    refine hv_aload_n dX12_tellOne_213 rfl ?_
    refine hv_getr dX12_tellOne_214 fl_X12_20 (by first | rfl | assumption) rfl (by first | rfl | assumption) ?_
    refine hv_aload_n dX12_tellOne_217 rfl ?_
    refine hv_geti dX12_tellOne_218 fl_X12_206 (by first | rfl | assumption) rfl ?_
    refine hv_iald dX12_tellOne_221 (by first | rfl | assumption) (j := a) h11 (by omega) (by first | decide | assumption) ?_
    rw [h67, k3]
    refine hv_bipush (v := 23) dX12_tellOne_222 (by decide) ?_
    refine hv_isub dX12_tellOne_224 ?_
    rw [show nI (kap 3) - 23 = nI 0 by decide]
    refine hv_istore_n dX12_tellOne_225 rfl rfl ?_
    refine hv_iload_n dX12_tellOne_226 rfl ?_
    refine hv_if_lt (tgt := 244) dX12_tellOne_227 (by decide) (fun c_227 => absurd c_227 ((by decide))) (fun c_227 => ?_)
    refine hv_aload_n dX12_tellOne_230 rfl ?_
    refine hv_getr dX12_tellOne_231 fl_X12_20 (by first | rfl | assumption) rfl (by first | rfl | assumption) ?_
    refine hv_aload_n dX12_tellOne_234 rfl ?_
    refine hv_geti dX12_tellOne_235 fl_X12_206 (by first | rfl | assumption) rfl ?_
    refine hv_iald dX12_tellOne_238 (by first | rfl | assumption) (j := a) h11 (by omega) (by first | decide | assumption) ?_
    rw [h67, k3]
    refine hv_bipush (v := 27) dX12_tellOne_239 (by decide) ?_
    refine hv_icmp_le (tgt := 249) dX12_tellOne_241 (by decide) (fun c_241 => ?_) (fun c_241 => absurd ((by decide)) c_241)
    refine hv_aload_n dX12_tellOne_249 rfl ?_
    refine hv_geti dX12_tellOne_250 fl_X12_203 (by first | rfl | assumption) rfl ?_
    refine hv_if_le (tgt := 257) dX12_tellOne_253 (by decide) (fun c_253 => ?_) (fun c_253 => absurd ((by rw [h13]; decide)) c_253)
    refine hv_aload_n dX12_tellOne_257 rfl ?_
    refine hv_cv0 (d_goesOn (s := .inr (a, ())) ht hs0 (fun b w q => by cases q; exact hk)) dX12_tellOne_258 ml_X12_224 mk_X12_goesOn (by first | rfl | assumption) rfl rfl rfl rfl rfl ?_
    rintro _ _ σ1 _ ⟨rfl, rfl, rfl, a1, a2, a3⟩
    refine hv_aload_n dX12_tellOne_261 rfl ?_
    refine hv_iload_n dX12_tellOne_262 rfl ?_
    refine hv_cv1 (d_tellLaw (k := 0) (L := L) (b0 := 130 * L + b0) (p0 := 420 * L + p0) (hB := 130 * L + 130) (hi := 420 * L + 420) (s := pass a) (tokM_of ht a1 (by decide)) a3 ((a2 19 (by decide)).trans h19) hL (by decide) ((a2 37 (by decide)).trans w37) (by omega) (by omega) (fun a' u q => ⟨(a2 43 (by decide)).trans w43, (a2 12 (by decide)).trans w12, by have := (pass_r q).2; omega⟩) (by omega)) dX12_tellOne_263 ml_X12_280 mk_X12_tellLaw (by first | rfl | assumption) rfl rfl rfl rfl rfl ?_
    rintro _ _ σ2 _ ⟨rfl, rfl, rfl, b1, b3⟩
    refine hv_vret dX12_tellOne_266 rfl ?_
    have P0 := b3
    obtain ⟨m1, m2, m3, m4, m5⟩ := b3
    refine ⟨rfl, rfl, off_tr a1 b1 (by decide) (by decide), fun _ _ => rfl, kM_tr a2 m1 (by decide) (by decide), hlf_tr (hlf_64 a1) ?_, ?_, ?_⟩
    · have f8 : (∀ j, j < 5 * L ∨ 5 * L + 5 ≤ j → σ2 86 j = σ1 86 j) ∧ ∀ j, j < 5 * L ∨ 5 * L + 5 ≤ j → σ2 87 j = σ1 87 j := by
        rcases hR : bd (pass a) (fun a _ => lawX (kd f n) (vl f n) a) with e | ⟨b, l⟩
        · rw [hR] at m5
          exact ⟨fun j _ => by rw [m5.1], fun j _ => by rw [m5.2]⟩
        · rw [hR] at m5
          exact ⟨fun j hj => by rw [m5.1, pk_un (by omega)], fun j hj => by rw [m5.2.1, pk_un (by omega)]⟩
      exact hlf_in (R := [(86, 5), (87, 5), (88, 130), (89, 130), (90, 130), (91, 130), (92, 130), (93, 420), (94, 420)]) b1 (by decide) ⟨f8.1, f8.2, fun j hj => (m3 j (by omega)).1, fun j hj => (m3 j (by omega)).2.1, fun j hj => (m3 j (by omega)).2.2.1, fun j hj => (m3 j (by omega)).2.2.2.1, fun j hj => (m3 j (by omega)).2.2.2.2, fun j hj => (m2 j (by omega)).1, fun j hj => (m2 j (by omega)).2, trivial⟩
    · rw [eT, stR_bd]; exact m4
    · intro b l hX
      have hp := tl_ok ha hX
      rw [eT] at hX
      obtain ⟨b', l', hx, hq⟩ := bd_iff.mp hX
      cases hq
      rw [hx] at P0
      obtain ⟨ap, u, hpa, hlx⟩ := bd_iff.mp hx
      obtain ⟨pa, rfl⟩ := pass_r hpa
      have hlen := lawX_len (kd f n) (vl f n) (a + 1) (by omega)
      rw [hlx] at hlen
      obtain ⟨-, -, -, l1, l2⟩ := hlen
      have S1 := smI_of hS a1 a2
      have N1 := nmM_of hN (a2 20 (by decide)) (a1 73 (by decide))
      obtain ⟨N2, S2⟩ := st_law S1 N1 (by omega) hp b1 m1
      rw [c1, c2, c3]
      refine ⟨⟨(m1 19 (by decide)).trans ((a2 19 (by decide)).trans h19), by rw [b1 74 (by decide), a1 74 (by decide)]; exact h74, by rw [b1 80 (by decide), a1 80 (by decide)]; exact h80, by rw [b1 81 (by decide), a1 81 (by decide)]; exact h81, hr16⟩, ⟨dT, ix, N2, S2⟩, ?_⟩
      exact lwI_law ((a2 37 (by decide)).trans w37) w4 w5 (fun k hk => lwO_ext (w6 k hk) (Nat.le_refl _) (Nat.le_refl _) (by rw [a1 86 (by decide)]) (by rw [a1 87 (by decide)]) (fun j _ => by rw [a1 88 (by decide), a1 89 (by decide), a1 90 (by decide), a1 91 (by decide), a1 92 (by decide)]; exact ⟨rfl, rfl, rfl, rfl, rfl⟩) (fun j _ => by rw [a1 93 (by decide), a1 94 (by decide)]; exact ⟨rfl, rfl⟩)) (hp.2.2.2.2.2.2.1 _ _ rfl).2.2.2 (by omega) (by omega) P0
  by_cases k4 : kd f n a = 4
  · have hk : kd f n a ≠ 25 ∧ kd f n a ≠ 26 := by omega
    have c1 : cnt (kd f n) 0 h a = h := if_neg (by omega)
    have c2 : cnt (kd f n) 1 r a = r := if_neg (by omega)
    have c3 : cnt (kd f n) 2 m a = m := if_neg (by omega)
    have eT : tellX (kd f n) (vl f n) h r m a = bd (bd (pass a) (fun a _ => lawX (kd f n) (vl f n) a)) (fun b l => .inr (b, some (1, l))) := by
      unfold tellX
      rw [if_neg (by omega), if_neg (by omega), if_neg (by omega), if_pos (by omega), k4, bd_assoc]
    have hW0 := hW
    obtain ⟨b0, p0, w37, w43, w12, w4, w5, w6⟩ := hW
    refine hv_aload_n dX12_tellOne_0 rfl ?_
    refine hv_getr dX12_tellOne_1 fl_X12_20 (by first | rfl | assumption) rfl (by first | rfl | assumption) ?_
    refine hv_aload_n dX12_tellOne_4 rfl ?_
    refine hv_geti dX12_tellOne_5 fl_X12_206 (by first | rfl | assumption) rfl ?_
    refine hv_iald dX12_tellOne_8 (by first | rfl | assumption) (j := a) h11 (by omega) (by first | decide | assumption) ?_
    rw [h67, k4]
    refine hv_tin (off := 204) (tgt := 213) (i := 4) (v := 24) dX12_tellOne_9 ((by decide)) (by decide) (by decide) (by decide) (by decide) ?_
    refine hv_aload_n dX12_tellOne_213 rfl ?_
    refine hv_getr dX12_tellOne_214 fl_X12_20 (by first | rfl | assumption) rfl (by first | rfl | assumption) ?_
    refine hv_aload_n dX12_tellOne_217 rfl ?_
    refine hv_geti dX12_tellOne_218 fl_X12_206 (by first | rfl | assumption) rfl ?_
    refine hv_iald dX12_tellOne_221 (by first | rfl | assumption) (j := a) h11 (by omega) (by first | decide | assumption) ?_
    rw [h67, k4]
    refine hv_bipush (v := 23) dX12_tellOne_222 (by decide) ?_
    refine hv_isub dX12_tellOne_224 ?_
    rw [show nI (kap 4) - 23 = nI 1 by decide]
    refine hv_istore_n dX12_tellOne_225 rfl rfl ?_
    refine hv_iload_n dX12_tellOne_226 rfl ?_
    refine hv_if_lt (tgt := 244) dX12_tellOne_227 (by decide) (fun c_227 => absurd c_227 ((by decide))) (fun c_227 => ?_)
    refine hv_aload_n dX12_tellOne_230 rfl ?_
    refine hv_getr dX12_tellOne_231 fl_X12_20 (by first | rfl | assumption) rfl (by first | rfl | assumption) ?_
    refine hv_aload_n dX12_tellOne_234 rfl ?_
    refine hv_geti dX12_tellOne_235 fl_X12_206 (by first | rfl | assumption) rfl ?_
    refine hv_iald dX12_tellOne_238 (by first | rfl | assumption) (j := a) h11 (by omega) (by first | decide | assumption) ?_
    rw [h67, k4]
    refine hv_bipush (v := 27) dX12_tellOne_239 (by decide) ?_
    refine hv_icmp_le (tgt := 249) dX12_tellOne_241 (by decide) (fun c_241 => ?_) (fun c_241 => absurd ((by decide)) c_241)
    refine hv_aload_n dX12_tellOne_249 rfl ?_
    refine hv_geti dX12_tellOne_250 fl_X12_203 (by first | rfl | assumption) rfl ?_
    refine hv_if_le (tgt := 257) dX12_tellOne_253 (by decide) (fun c_253 => ?_) (fun c_253 => absurd ((by rw [h13]; decide)) c_253)
    refine hv_aload_n dX12_tellOne_257 rfl ?_
    refine hv_cv0 (d_goesOn (s := .inr (a, ())) ht hs0 (fun b w q => by cases q; exact hk)) dX12_tellOne_258 ml_X12_224 mk_X12_goesOn (by first | rfl | assumption) rfl rfl rfl rfl rfl ?_
    rintro _ _ σ1 _ ⟨rfl, rfl, rfl, a1, a2, a3⟩
    refine hv_aload_n dX12_tellOne_261 rfl ?_
    refine hv_iload_n dX12_tellOne_262 rfl ?_
    refine hv_cv1 (d_tellLaw (k := 1) (L := L) (b0 := 130 * L + b0) (p0 := 420 * L + p0) (hB := 130 * L + 130) (hi := 420 * L + 420) (s := pass a) (tokM_of ht a1 (by decide)) a3 ((a2 19 (by decide)).trans h19) hL (by decide) ((a2 37 (by decide)).trans w37) (by omega) (by omega) (fun a' u q => ⟨(a2 43 (by decide)).trans w43, (a2 12 (by decide)).trans w12, by have := (pass_r q).2; omega⟩) (by omega)) dX12_tellOne_263 ml_X12_280 mk_X12_tellLaw (by first | rfl | assumption) rfl rfl rfl rfl rfl ?_
    rintro _ _ σ2 _ ⟨rfl, rfl, rfl, b1, b3⟩
    refine hv_vret dX12_tellOne_266 rfl ?_
    have P0 := b3
    obtain ⟨m1, m2, m3, m4, m5⟩ := b3
    refine ⟨rfl, rfl, off_tr a1 b1 (by decide) (by decide), fun _ _ => rfl, kM_tr a2 m1 (by decide) (by decide), hlf_tr (hlf_64 a1) ?_, ?_, ?_⟩
    · have f8 : (∀ j, j < 5 * L ∨ 5 * L + 5 ≤ j → σ2 86 j = σ1 86 j) ∧ ∀ j, j < 5 * L ∨ 5 * L + 5 ≤ j → σ2 87 j = σ1 87 j := by
        rcases hR : bd (pass a) (fun a _ => lawX (kd f n) (vl f n) a) with e | ⟨b, l⟩
        · rw [hR] at m5
          exact ⟨fun j _ => by rw [m5.1], fun j _ => by rw [m5.2]⟩
        · rw [hR] at m5
          exact ⟨fun j hj => by rw [m5.1, pk_un (by omega)], fun j hj => by rw [m5.2.1, pk_un (by omega)]⟩
      exact hlf_in (R := [(86, 5), (87, 5), (88, 130), (89, 130), (90, 130), (91, 130), (92, 130), (93, 420), (94, 420)]) b1 (by decide) ⟨f8.1, f8.2, fun j hj => (m3 j (by omega)).1, fun j hj => (m3 j (by omega)).2.1, fun j hj => (m3 j (by omega)).2.2.1, fun j hj => (m3 j (by omega)).2.2.2.1, fun j hj => (m3 j (by omega)).2.2.2.2, fun j hj => (m2 j (by omega)).1, fun j hj => (m2 j (by omega)).2, trivial⟩
    · rw [eT, stR_bd]; exact m4
    · intro b l hX
      have hp := tl_ok ha hX
      rw [eT] at hX
      obtain ⟨b', l', hx, hq⟩ := bd_iff.mp hX
      cases hq
      rw [hx] at P0
      obtain ⟨ap, u, hpa, hlx⟩ := bd_iff.mp hx
      obtain ⟨pa, rfl⟩ := pass_r hpa
      have hlen := lawX_len (kd f n) (vl f n) (a + 1) (by omega)
      rw [hlx] at hlen
      obtain ⟨-, -, -, l1, l2⟩ := hlen
      have S1 := smI_of hS a1 a2
      have N1 := nmM_of hN (a2 20 (by decide)) (a1 73 (by decide))
      obtain ⟨N2, S2⟩ := st_law S1 N1 (by omega) hp b1 m1
      rw [c1, c2, c3]
      refine ⟨⟨(m1 19 (by decide)).trans ((a2 19 (by decide)).trans h19), by rw [b1 74 (by decide), a1 74 (by decide)]; exact h74, by rw [b1 80 (by decide), a1 80 (by decide)]; exact h80, by rw [b1 81 (by decide), a1 81 (by decide)]; exact h81, hr16⟩, ⟨dT, ix, N2, S2⟩, ?_⟩
      exact lwI_law ((a2 37 (by decide)).trans w37) w4 w5 (fun k hk => lwO_ext (w6 k hk) (Nat.le_refl _) (Nat.le_refl _) (by rw [a1 86 (by decide)]) (by rw [a1 87 (by decide)]) (fun j _ => by rw [a1 88 (by decide), a1 89 (by decide), a1 90 (by decide), a1 91 (by decide), a1 92 (by decide)]; exact ⟨rfl, rfl, rfl, rfl, rfl⟩) (fun j _ => by rw [a1 93 (by decide), a1 94 (by decide)]; exact ⟨rfl, rfl⟩)) (hp.2.2.2.2.2.2.1 _ _ rfl).2.2.2 (by omega) (by omega) P0
  by_cases k5 : kd f n a = 5
  · have hk : kd f n a ≠ 25 ∧ kd f n a ≠ 26 := by omega
    have c1 : cnt (kd f n) 0 h a = h := if_neg (by omega)
    have c2 : cnt (kd f n) 1 r a = r := if_neg (by omega)
    have c3 : cnt (kd f n) 2 m a = m := if_neg (by omega)
    have eT : tellX (kd f n) (vl f n) h r m a = bd (bd (pass a) (fun a _ => lawX (kd f n) (vl f n) a)) (fun b l => .inr (b, some (2, l))) := by
      unfold tellX
      rw [if_neg (by omega), if_neg (by omega), if_neg (by omega), if_pos (by omega), k5, bd_assoc]
    have hW0 := hW
    obtain ⟨b0, p0, w37, w43, w12, w4, w5, w6⟩ := hW
    refine hv_aload_n dX12_tellOne_0 rfl ?_
    refine hv_getr dX12_tellOne_1 fl_X12_20 (by first | rfl | assumption) rfl (by first | rfl | assumption) ?_
    refine hv_aload_n dX12_tellOne_4 rfl ?_
    refine hv_geti dX12_tellOne_5 fl_X12_206 (by first | rfl | assumption) rfl ?_
    refine hv_iald dX12_tellOne_8 (by first | rfl | assumption) (j := a) h11 (by omega) (by first | decide | assumption) ?_
    rw [h67, k5]
    refine hv_tin (off := 204) (tgt := 213) (i := 5) (v := 25) dX12_tellOne_9 ((by decide)) (by decide) (by decide) (by decide) (by decide) ?_
    refine hv_aload_n dX12_tellOne_213 rfl ?_
    refine hv_getr dX12_tellOne_214 fl_X12_20 (by first | rfl | assumption) rfl (by first | rfl | assumption) ?_
    refine hv_aload_n dX12_tellOne_217 rfl ?_
    refine hv_geti dX12_tellOne_218 fl_X12_206 (by first | rfl | assumption) rfl ?_
    refine hv_iald dX12_tellOne_221 (by first | rfl | assumption) (j := a) h11 (by omega) (by first | decide | assumption) ?_
    rw [h67, k5]
    refine hv_bipush (v := 23) dX12_tellOne_222 (by decide) ?_
    refine hv_isub dX12_tellOne_224 ?_
    rw [show nI (kap 5) - 23 = nI 2 by decide]
    refine hv_istore_n dX12_tellOne_225 rfl rfl ?_
    refine hv_iload_n dX12_tellOne_226 rfl ?_
    refine hv_if_lt (tgt := 244) dX12_tellOne_227 (by decide) (fun c_227 => absurd c_227 ((by decide))) (fun c_227 => ?_)
    refine hv_aload_n dX12_tellOne_230 rfl ?_
    refine hv_getr dX12_tellOne_231 fl_X12_20 (by first | rfl | assumption) rfl (by first | rfl | assumption) ?_
    refine hv_aload_n dX12_tellOne_234 rfl ?_
    refine hv_geti dX12_tellOne_235 fl_X12_206 (by first | rfl | assumption) rfl ?_
    refine hv_iald dX12_tellOne_238 (by first | rfl | assumption) (j := a) h11 (by omega) (by first | decide | assumption) ?_
    rw [h67, k5]
    refine hv_bipush (v := 27) dX12_tellOne_239 (by decide) ?_
    refine hv_icmp_le (tgt := 249) dX12_tellOne_241 (by decide) (fun c_241 => ?_) (fun c_241 => absurd ((by decide)) c_241)
    refine hv_aload_n dX12_tellOne_249 rfl ?_
    refine hv_geti dX12_tellOne_250 fl_X12_203 (by first | rfl | assumption) rfl ?_
    refine hv_if_le (tgt := 257) dX12_tellOne_253 (by decide) (fun c_253 => ?_) (fun c_253 => absurd ((by rw [h13]; decide)) c_253)
    refine hv_aload_n dX12_tellOne_257 rfl ?_
    refine hv_cv0 (d_goesOn (s := .inr (a, ())) ht hs0 (fun b w q => by cases q; exact hk)) dX12_tellOne_258 ml_X12_224 mk_X12_goesOn (by first | rfl | assumption) rfl rfl rfl rfl rfl ?_
    rintro _ _ σ1 _ ⟨rfl, rfl, rfl, a1, a2, a3⟩
    refine hv_aload_n dX12_tellOne_261 rfl ?_
    refine hv_iload_n dX12_tellOne_262 rfl ?_
    refine hv_cv1 (d_tellLaw (k := 2) (L := L) (b0 := 130 * L + b0) (p0 := 420 * L + p0) (hB := 130 * L + 130) (hi := 420 * L + 420) (s := pass a) (tokM_of ht a1 (by decide)) a3 ((a2 19 (by decide)).trans h19) hL (by decide) ((a2 37 (by decide)).trans w37) (by omega) (by omega) (fun a' u q => ⟨(a2 43 (by decide)).trans w43, (a2 12 (by decide)).trans w12, by have := (pass_r q).2; omega⟩) (by omega)) dX12_tellOne_263 ml_X12_280 mk_X12_tellLaw (by first | rfl | assumption) rfl rfl rfl rfl rfl ?_
    rintro _ _ σ2 _ ⟨rfl, rfl, rfl, b1, b3⟩
    refine hv_vret dX12_tellOne_266 rfl ?_
    have P0 := b3
    obtain ⟨m1, m2, m3, m4, m5⟩ := b3
    refine ⟨rfl, rfl, off_tr a1 b1 (by decide) (by decide), fun _ _ => rfl, kM_tr a2 m1 (by decide) (by decide), hlf_tr (hlf_64 a1) ?_, ?_, ?_⟩
    · have f8 : (∀ j, j < 5 * L ∨ 5 * L + 5 ≤ j → σ2 86 j = σ1 86 j) ∧ ∀ j, j < 5 * L ∨ 5 * L + 5 ≤ j → σ2 87 j = σ1 87 j := by
        rcases hR : bd (pass a) (fun a _ => lawX (kd f n) (vl f n) a) with e | ⟨b, l⟩
        · rw [hR] at m5
          exact ⟨fun j _ => by rw [m5.1], fun j _ => by rw [m5.2]⟩
        · rw [hR] at m5
          exact ⟨fun j hj => by rw [m5.1, pk_un (by omega)], fun j hj => by rw [m5.2.1, pk_un (by omega)]⟩
      exact hlf_in (R := [(86, 5), (87, 5), (88, 130), (89, 130), (90, 130), (91, 130), (92, 130), (93, 420), (94, 420)]) b1 (by decide) ⟨f8.1, f8.2, fun j hj => (m3 j (by omega)).1, fun j hj => (m3 j (by omega)).2.1, fun j hj => (m3 j (by omega)).2.2.1, fun j hj => (m3 j (by omega)).2.2.2.1, fun j hj => (m3 j (by omega)).2.2.2.2, fun j hj => (m2 j (by omega)).1, fun j hj => (m2 j (by omega)).2, trivial⟩
    · rw [eT, stR_bd]; exact m4
    · intro b l hX
      have hp := tl_ok ha hX
      rw [eT] at hX
      obtain ⟨b', l', hx, hq⟩ := bd_iff.mp hX
      cases hq
      rw [hx] at P0
      obtain ⟨ap, u, hpa, hlx⟩ := bd_iff.mp hx
      obtain ⟨pa, rfl⟩ := pass_r hpa
      have hlen := lawX_len (kd f n) (vl f n) (a + 1) (by omega)
      rw [hlx] at hlen
      obtain ⟨-, -, -, l1, l2⟩ := hlen
      have S1 := smI_of hS a1 a2
      have N1 := nmM_of hN (a2 20 (by decide)) (a1 73 (by decide))
      obtain ⟨N2, S2⟩ := st_law S1 N1 (by omega) hp b1 m1
      rw [c1, c2, c3]
      refine ⟨⟨(m1 19 (by decide)).trans ((a2 19 (by decide)).trans h19), by rw [b1 74 (by decide), a1 74 (by decide)]; exact h74, by rw [b1 80 (by decide), a1 80 (by decide)]; exact h80, by rw [b1 81 (by decide), a1 81 (by decide)]; exact h81, hr16⟩, ⟨dT, ix, N2, S2⟩, ?_⟩
      exact lwI_law ((a2 37 (by decide)).trans w37) w4 w5 (fun k hk => lwO_ext (w6 k hk) (Nat.le_refl _) (Nat.le_refl _) (by rw [a1 86 (by decide)]) (by rw [a1 87 (by decide)]) (fun j _ => by rw [a1 88 (by decide), a1 89 (by decide), a1 90 (by decide), a1 91 (by decide), a1 92 (by decide)]; exact ⟨rfl, rfl, rfl, rfl, rfl⟩) (fun j _ => by rw [a1 93 (by decide), a1 94 (by decide)]; exact ⟨rfl, rfl⟩)) (hp.2.2.2.2.2.2.1 _ _ rfl).2.2.2 (by omega) (by omega) P0
  by_cases k6 : kd f n a = 6
  · have hk : kd f n a ≠ 25 ∧ kd f n a ≠ 26 := by omega
    have c1 : cnt (kd f n) 0 h a = h := if_neg (by omega)
    have c2 : cnt (kd f n) 1 r a = r := if_neg (by omega)
    have c3 : cnt (kd f n) 2 m a = m := if_neg (by omega)
    have eT : tellX (kd f n) (vl f n) h r m a = bd (bd (pass a) (fun a _ => lawX (kd f n) (vl f n) a)) (fun b l => .inr (b, some (3, l))) := by
      unfold tellX
      rw [if_neg (by omega), if_neg (by omega), if_neg (by omega), if_pos (by omega), k6, bd_assoc]
    have hW0 := hW
    obtain ⟨b0, p0, w37, w43, w12, w4, w5, w6⟩ := hW
    refine hv_aload_n dX12_tellOne_0 rfl ?_
    refine hv_getr dX12_tellOne_1 fl_X12_20 (by first | rfl | assumption) rfl (by first | rfl | assumption) ?_
    refine hv_aload_n dX12_tellOne_4 rfl ?_
    refine hv_geti dX12_tellOne_5 fl_X12_206 (by first | rfl | assumption) rfl ?_
    refine hv_iald dX12_tellOne_8 (by first | rfl | assumption) (j := a) h11 (by omega) (by first | decide | assumption) ?_
    rw [h67, k6]
    refine hv_tin (off := 204) (tgt := 213) (i := 6) (v := 26) dX12_tellOne_9 ((by decide)) (by decide) (by decide) (by decide) (by decide) ?_
    refine hv_aload_n dX12_tellOne_213 rfl ?_
    refine hv_getr dX12_tellOne_214 fl_X12_20 (by first | rfl | assumption) rfl (by first | rfl | assumption) ?_
    refine hv_aload_n dX12_tellOne_217 rfl ?_
    refine hv_geti dX12_tellOne_218 fl_X12_206 (by first | rfl | assumption) rfl ?_
    refine hv_iald dX12_tellOne_221 (by first | rfl | assumption) (j := a) h11 (by omega) (by first | decide | assumption) ?_
    rw [h67, k6]
    refine hv_bipush (v := 23) dX12_tellOne_222 (by decide) ?_
    refine hv_isub dX12_tellOne_224 ?_
    rw [show nI (kap 6) - 23 = nI 3 by decide]
    refine hv_istore_n dX12_tellOne_225 rfl rfl ?_
    refine hv_iload_n dX12_tellOne_226 rfl ?_
    refine hv_if_lt (tgt := 244) dX12_tellOne_227 (by decide) (fun c_227 => absurd c_227 ((by decide))) (fun c_227 => ?_)
    refine hv_aload_n dX12_tellOne_230 rfl ?_
    refine hv_getr dX12_tellOne_231 fl_X12_20 (by first | rfl | assumption) rfl (by first | rfl | assumption) ?_
    refine hv_aload_n dX12_tellOne_234 rfl ?_
    refine hv_geti dX12_tellOne_235 fl_X12_206 (by first | rfl | assumption) rfl ?_
    refine hv_iald dX12_tellOne_238 (by first | rfl | assumption) (j := a) h11 (by omega) (by first | decide | assumption) ?_
    rw [h67, k6]
    refine hv_bipush (v := 27) dX12_tellOne_239 (by decide) ?_
    refine hv_icmp_le (tgt := 249) dX12_tellOne_241 (by decide) (fun c_241 => ?_) (fun c_241 => absurd ((by decide)) c_241)
    refine hv_aload_n dX12_tellOne_249 rfl ?_
    refine hv_geti dX12_tellOne_250 fl_X12_203 (by first | rfl | assumption) rfl ?_
    refine hv_if_le (tgt := 257) dX12_tellOne_253 (by decide) (fun c_253 => ?_) (fun c_253 => absurd ((by rw [h13]; decide)) c_253)
    refine hv_aload_n dX12_tellOne_257 rfl ?_
    refine hv_cv0 (d_goesOn (s := .inr (a, ())) ht hs0 (fun b w q => by cases q; exact hk)) dX12_tellOne_258 ml_X12_224 mk_X12_goesOn (by first | rfl | assumption) rfl rfl rfl rfl rfl ?_
    rintro _ _ σ1 _ ⟨rfl, rfl, rfl, a1, a2, a3⟩
    refine hv_aload_n dX12_tellOne_261 rfl ?_
    refine hv_iload_n dX12_tellOne_262 rfl ?_
    refine hv_cv1 (d_tellLaw (k := 3) (L := L) (b0 := 130 * L + b0) (p0 := 420 * L + p0) (hB := 130 * L + 130) (hi := 420 * L + 420) (s := pass a) (tokM_of ht a1 (by decide)) a3 ((a2 19 (by decide)).trans h19) hL (by decide) ((a2 37 (by decide)).trans w37) (by omega) (by omega) (fun a' u q => ⟨(a2 43 (by decide)).trans w43, (a2 12 (by decide)).trans w12, by have := (pass_r q).2; omega⟩) (by omega)) dX12_tellOne_263 ml_X12_280 mk_X12_tellLaw (by first | rfl | assumption) rfl rfl rfl rfl rfl ?_
    rintro _ _ σ2 _ ⟨rfl, rfl, rfl, b1, b3⟩
    refine hv_vret dX12_tellOne_266 rfl ?_
    have P0 := b3
    obtain ⟨m1, m2, m3, m4, m5⟩ := b3
    refine ⟨rfl, rfl, off_tr a1 b1 (by decide) (by decide), fun _ _ => rfl, kM_tr a2 m1 (by decide) (by decide), hlf_tr (hlf_64 a1) ?_, ?_, ?_⟩
    · have f8 : (∀ j, j < 5 * L ∨ 5 * L + 5 ≤ j → σ2 86 j = σ1 86 j) ∧ ∀ j, j < 5 * L ∨ 5 * L + 5 ≤ j → σ2 87 j = σ1 87 j := by
        rcases hR : bd (pass a) (fun a _ => lawX (kd f n) (vl f n) a) with e | ⟨b, l⟩
        · rw [hR] at m5
          exact ⟨fun j _ => by rw [m5.1], fun j _ => by rw [m5.2]⟩
        · rw [hR] at m5
          exact ⟨fun j hj => by rw [m5.1, pk_un (by omega)], fun j hj => by rw [m5.2.1, pk_un (by omega)]⟩
      exact hlf_in (R := [(86, 5), (87, 5), (88, 130), (89, 130), (90, 130), (91, 130), (92, 130), (93, 420), (94, 420)]) b1 (by decide) ⟨f8.1, f8.2, fun j hj => (m3 j (by omega)).1, fun j hj => (m3 j (by omega)).2.1, fun j hj => (m3 j (by omega)).2.2.1, fun j hj => (m3 j (by omega)).2.2.2.1, fun j hj => (m3 j (by omega)).2.2.2.2, fun j hj => (m2 j (by omega)).1, fun j hj => (m2 j (by omega)).2, trivial⟩
    · rw [eT, stR_bd]; exact m4
    · intro b l hX
      have hp := tl_ok ha hX
      rw [eT] at hX
      obtain ⟨b', l', hx, hq⟩ := bd_iff.mp hX
      cases hq
      rw [hx] at P0
      obtain ⟨ap, u, hpa, hlx⟩ := bd_iff.mp hx
      obtain ⟨pa, rfl⟩ := pass_r hpa
      have hlen := lawX_len (kd f n) (vl f n) (a + 1) (by omega)
      rw [hlx] at hlen
      obtain ⟨-, -, -, l1, l2⟩ := hlen
      have S1 := smI_of hS a1 a2
      have N1 := nmM_of hN (a2 20 (by decide)) (a1 73 (by decide))
      obtain ⟨N2, S2⟩ := st_law S1 N1 (by omega) hp b1 m1
      rw [c1, c2, c3]
      refine ⟨⟨(m1 19 (by decide)).trans ((a2 19 (by decide)).trans h19), by rw [b1 74 (by decide), a1 74 (by decide)]; exact h74, by rw [b1 80 (by decide), a1 80 (by decide)]; exact h80, by rw [b1 81 (by decide), a1 81 (by decide)]; exact h81, hr16⟩, ⟨dT, ix, N2, S2⟩, ?_⟩
      exact lwI_law ((a2 37 (by decide)).trans w37) w4 w5 (fun k hk => lwO_ext (w6 k hk) (Nat.le_refl _) (Nat.le_refl _) (by rw [a1 86 (by decide)]) (by rw [a1 87 (by decide)]) (fun j _ => by rw [a1 88 (by decide), a1 89 (by decide), a1 90 (by decide), a1 91 (by decide), a1 92 (by decide)]; exact ⟨rfl, rfl, rfl, rfl, rfl⟩) (fun j _ => by rw [a1 93 (by decide), a1 94 (by decide)]; exact ⟨rfl, rfl⟩)) (hp.2.2.2.2.2.2.1 _ _ rfl).2.2.2 (by omega) (by omega) P0
  by_cases k7 : kd f n a = 7
  · have hk : kd f n a ≠ 25 ∧ kd f n a ≠ 26 := by omega
    have c1 : cnt (kd f n) 0 h a = h := if_neg (by omega)
    have c2 : cnt (kd f n) 1 r a = r := if_neg (by omega)
    have c3 : cnt (kd f n) 2 m a = m := if_neg (by omega)
    have eT : tellX (kd f n) (vl f n) h r m a = bd (bd (pass a) (fun a _ => lawX (kd f n) (vl f n) a)) (fun b l => .inr (b, some (4, l))) := by
      unfold tellX
      rw [if_neg (by omega), if_neg (by omega), if_neg (by omega), if_pos (by omega), k7, bd_assoc]
    have hW0 := hW
    obtain ⟨b0, p0, w37, w43, w12, w4, w5, w6⟩ := hW
    refine hv_aload_n dX12_tellOne_0 rfl ?_
    refine hv_getr dX12_tellOne_1 fl_X12_20 (by first | rfl | assumption) rfl (by first | rfl | assumption) ?_
    refine hv_aload_n dX12_tellOne_4 rfl ?_
    refine hv_geti dX12_tellOne_5 fl_X12_206 (by first | rfl | assumption) rfl ?_
    refine hv_iald dX12_tellOne_8 (by first | rfl | assumption) (j := a) h11 (by omega) (by first | decide | assumption) ?_
    rw [h67, k7]
    refine hv_tin (off := 204) (tgt := 213) (i := 7) (v := 27) dX12_tellOne_9 ((by decide)) (by decide) (by decide) (by decide) (by decide) ?_
    refine hv_aload_n dX12_tellOne_213 rfl ?_
    refine hv_getr dX12_tellOne_214 fl_X12_20 (by first | rfl | assumption) rfl (by first | rfl | assumption) ?_
    refine hv_aload_n dX12_tellOne_217 rfl ?_
    refine hv_geti dX12_tellOne_218 fl_X12_206 (by first | rfl | assumption) rfl ?_
    refine hv_iald dX12_tellOne_221 (by first | rfl | assumption) (j := a) h11 (by omega) (by first | decide | assumption) ?_
    rw [h67, k7]
    refine hv_bipush (v := 23) dX12_tellOne_222 (by decide) ?_
    refine hv_isub dX12_tellOne_224 ?_
    rw [show nI (kap 7) - 23 = nI 4 by decide]
    refine hv_istore_n dX12_tellOne_225 rfl rfl ?_
    refine hv_iload_n dX12_tellOne_226 rfl ?_
    refine hv_if_lt (tgt := 244) dX12_tellOne_227 (by decide) (fun c_227 => absurd c_227 ((by decide))) (fun c_227 => ?_)
    refine hv_aload_n dX12_tellOne_230 rfl ?_
    refine hv_getr dX12_tellOne_231 fl_X12_20 (by first | rfl | assumption) rfl (by first | rfl | assumption) ?_
    refine hv_aload_n dX12_tellOne_234 rfl ?_
    refine hv_geti dX12_tellOne_235 fl_X12_206 (by first | rfl | assumption) rfl ?_
    refine hv_iald dX12_tellOne_238 (by first | rfl | assumption) (j := a) h11 (by omega) (by first | decide | assumption) ?_
    rw [h67, k7]
    refine hv_bipush (v := 27) dX12_tellOne_239 (by decide) ?_
    refine hv_icmp_le (tgt := 249) dX12_tellOne_241 (by decide) (fun c_241 => ?_) (fun c_241 => absurd ((by decide)) c_241)
    refine hv_aload_n dX12_tellOne_249 rfl ?_
    refine hv_geti dX12_tellOne_250 fl_X12_203 (by first | rfl | assumption) rfl ?_
    refine hv_if_le (tgt := 257) dX12_tellOne_253 (by decide) (fun c_253 => ?_) (fun c_253 => absurd ((by rw [h13]; decide)) c_253)
    refine hv_aload_n dX12_tellOne_257 rfl ?_
    refine hv_cv0 (d_goesOn (s := .inr (a, ())) ht hs0 (fun b w q => by cases q; exact hk)) dX12_tellOne_258 ml_X12_224 mk_X12_goesOn (by first | rfl | assumption) rfl rfl rfl rfl rfl ?_
    rintro _ _ σ1 _ ⟨rfl, rfl, rfl, a1, a2, a3⟩
    refine hv_aload_n dX12_tellOne_261 rfl ?_
    refine hv_iload_n dX12_tellOne_262 rfl ?_
    refine hv_cv1 (d_tellLaw (k := 4) (L := L) (b0 := 130 * L + b0) (p0 := 420 * L + p0) (hB := 130 * L + 130) (hi := 420 * L + 420) (s := pass a) (tokM_of ht a1 (by decide)) a3 ((a2 19 (by decide)).trans h19) hL (by decide) ((a2 37 (by decide)).trans w37) (by omega) (by omega) (fun a' u q => ⟨(a2 43 (by decide)).trans w43, (a2 12 (by decide)).trans w12, by have := (pass_r q).2; omega⟩) (by omega)) dX12_tellOne_263 ml_X12_280 mk_X12_tellLaw (by first | rfl | assumption) rfl rfl rfl rfl rfl ?_
    rintro _ _ σ2 _ ⟨rfl, rfl, rfl, b1, b3⟩
    refine hv_vret dX12_tellOne_266 rfl ?_
    have P0 := b3
    obtain ⟨m1, m2, m3, m4, m5⟩ := b3
    refine ⟨rfl, rfl, off_tr a1 b1 (by decide) (by decide), fun _ _ => rfl, kM_tr a2 m1 (by decide) (by decide), hlf_tr (hlf_64 a1) ?_, ?_, ?_⟩
    · have f8 : (∀ j, j < 5 * L ∨ 5 * L + 5 ≤ j → σ2 86 j = σ1 86 j) ∧ ∀ j, j < 5 * L ∨ 5 * L + 5 ≤ j → σ2 87 j = σ1 87 j := by
        rcases hR : bd (pass a) (fun a _ => lawX (kd f n) (vl f n) a) with e | ⟨b, l⟩
        · rw [hR] at m5
          exact ⟨fun j _ => by rw [m5.1], fun j _ => by rw [m5.2]⟩
        · rw [hR] at m5
          exact ⟨fun j hj => by rw [m5.1, pk_un (by omega)], fun j hj => by rw [m5.2.1, pk_un (by omega)]⟩
      exact hlf_in (R := [(86, 5), (87, 5), (88, 130), (89, 130), (90, 130), (91, 130), (92, 130), (93, 420), (94, 420)]) b1 (by decide) ⟨f8.1, f8.2, fun j hj => (m3 j (by omega)).1, fun j hj => (m3 j (by omega)).2.1, fun j hj => (m3 j (by omega)).2.2.1, fun j hj => (m3 j (by omega)).2.2.2.1, fun j hj => (m3 j (by omega)).2.2.2.2, fun j hj => (m2 j (by omega)).1, fun j hj => (m2 j (by omega)).2, trivial⟩
    · rw [eT, stR_bd]; exact m4
    · intro b l hX
      have hp := tl_ok ha hX
      rw [eT] at hX
      obtain ⟨b', l', hx, hq⟩ := bd_iff.mp hX
      cases hq
      rw [hx] at P0
      obtain ⟨ap, u, hpa, hlx⟩ := bd_iff.mp hx
      obtain ⟨pa, rfl⟩ := pass_r hpa
      have hlen := lawX_len (kd f n) (vl f n) (a + 1) (by omega)
      rw [hlx] at hlen
      obtain ⟨-, -, -, l1, l2⟩ := hlen
      have S1 := smI_of hS a1 a2
      have N1 := nmM_of hN (a2 20 (by decide)) (a1 73 (by decide))
      obtain ⟨N2, S2⟩ := st_law S1 N1 (by omega) hp b1 m1
      rw [c1, c2, c3]
      refine ⟨⟨(m1 19 (by decide)).trans ((a2 19 (by decide)).trans h19), by rw [b1 74 (by decide), a1 74 (by decide)]; exact h74, by rw [b1 80 (by decide), a1 80 (by decide)]; exact h80, by rw [b1 81 (by decide), a1 81 (by decide)]; exact h81, hr16⟩, ⟨dT, ix, N2, S2⟩, ?_⟩
      exact lwI_law ((a2 37 (by decide)).trans w37) w4 w5 (fun k hk => lwO_ext (w6 k hk) (Nat.le_refl _) (Nat.le_refl _) (by rw [a1 86 (by decide)]) (by rw [a1 87 (by decide)]) (fun j _ => by rw [a1 88 (by decide), a1 89 (by decide), a1 90 (by decide), a1 91 (by decide), a1 92 (by decide)]; exact ⟨rfl, rfl, rfl, rfl, rfl⟩) (fun j _ => by rw [a1 93 (by decide), a1 94 (by decide)]; exact ⟨rfl, rfl⟩)) (hp.2.2.2.2.2.2.1 _ _ rfl).2.2.2 (by omega) (by omega) P0
  have hkl := kd_le f n a
  have eT : tellX (kd f n) (vl f n) h r m a = .inl (1, a) := by
    unfold tellX
    rw [if_neg k0, if_neg k1, if_neg k2, if_neg (by omega), if_neg (by omega)]
  obtain ⟨g1, g2 | ⟨g2, g3⟩⟩ := kap_big (kd f n a) (by omega) (by omega)
  · skip
    refine hv_aload_n dX12_tellOne_0 rfl ?_
    refine hv_getr dX12_tellOne_1 fl_X12_20 (by first | rfl | assumption) rfl (by first | rfl | assumption) ?_
    refine hv_aload_n dX12_tellOne_4 rfl ?_
    refine hv_geti dX12_tellOne_5 fl_X12_206 (by first | rfl | assumption) rfl ?_
    refine hv_iald dX12_tellOne_8 (by first | rfl | assumption) (j := a) h11 (by omega) (by first | decide | assumption) ?_
    rw [h67]
    refine hv_tout (tgt := 213) dX12_tellOne_9 (g1) (by decide) ?_
    refine hv_aload_n dX12_tellOne_213 rfl ?_
    refine hv_getr dX12_tellOne_214 fl_X12_20 (by first | rfl | assumption) rfl (by first | rfl | assumption) ?_
    refine hv_aload_n dX12_tellOne_217 rfl ?_
    refine hv_geti dX12_tellOne_218 fl_X12_206 (by first | rfl | assumption) rfl ?_
    refine hv_iald dX12_tellOne_221 (by first | rfl | assumption) (j := a) h11 (by omega) (by first | decide | assumption) ?_
    rw [h67]
    refine hv_bipush (v := 23) dX12_tellOne_222 (by decide) ?_
    refine hv_isub dX12_tellOne_224 ?_
    refine hv_istore_n dX12_tellOne_225 rfl rfl ?_
    refine hv_iload_n dX12_tellOne_226 rfl ?_
    refine hv_if_lt (tgt := 244) dX12_tellOne_227 (by decide) (fun c_227 => ?_) (fun c_227 => absurd (g2) c_227)
    refine hv_aload_n dX12_tellOne_244 rfl ?_
    refine hv_iconst (v := 1) dX12_tellOne_245 (by decide) ?_
    refine hv_cv1 (d_fail (k := 1) rfl (Or.inl rfl) ht hs0) dX12_tellOne_246 ml_X12_218 mk_X12_fail (by first | rfl | assumption) rfl rfl rfl rfl rfl ?_
    rintro _ _ σ1 _ ⟨rfl, rfl, rfl, a1, a2, a3⟩
    have a30 : σ1 64 13 = 1 := a3.1
    refine hv_aload_n dX12_tellOne_249 rfl ?_
    refine hv_geti dX12_tellOne_250 fl_X12_203 (by first | rfl | assumption) rfl ?_
    refine hv_if_le (tgt := 257) dX12_tellOne_253 (by decide) (fun c_253 => absurd c_253 ((by rw [a30]; decide))) (fun c_253 => ?_)
    refine hv_vret dX12_tellOne_256 rfl ?_
    exact ⟨rfl, rfl, off_wk a1 (by decide), fun _ _ => rfl, kM_tr a2 kM_rf (Y := []) (by decide) (by decide), hlf_64 a1, by rw [eT]; exact a3, fun b l q => by rw [eT] at q; cases q⟩
  · skip
    refine hv_aload_n dX12_tellOne_0 rfl ?_
    refine hv_getr dX12_tellOne_1 fl_X12_20 (by first | rfl | assumption) rfl (by first | rfl | assumption) ?_
    refine hv_aload_n dX12_tellOne_4 rfl ?_
    refine hv_geti dX12_tellOne_5 fl_X12_206 (by first | rfl | assumption) rfl ?_
    refine hv_iald dX12_tellOne_8 (by first | rfl | assumption) (j := a) h11 (by omega) (by first | decide | assumption) ?_
    rw [h67]
    refine hv_tout (tgt := 213) dX12_tellOne_9 (g1) (by decide) ?_
    refine hv_aload_n dX12_tellOne_213 rfl ?_
    refine hv_getr dX12_tellOne_214 fl_X12_20 (by first | rfl | assumption) rfl (by first | rfl | assumption) ?_
    refine hv_aload_n dX12_tellOne_217 rfl ?_
    refine hv_geti dX12_tellOne_218 fl_X12_206 (by first | rfl | assumption) rfl ?_
    refine hv_iald dX12_tellOne_221 (by first | rfl | assumption) (j := a) h11 (by omega) (by first | decide | assumption) ?_
    rw [h67]
    refine hv_bipush (v := 23) dX12_tellOne_222 (by decide) ?_
    refine hv_isub dX12_tellOne_224 ?_
    refine hv_istore_n dX12_tellOne_225 rfl rfl ?_
    refine hv_iload_n dX12_tellOne_226 rfl ?_
    refine hv_if_lt (tgt := 244) dX12_tellOne_227 (by decide) (fun c_227 => absurd c_227 (g2)) (fun c_227 => ?_)
    refine hv_aload_n dX12_tellOne_230 rfl ?_
    refine hv_getr dX12_tellOne_231 fl_X12_20 (by first | rfl | assumption) rfl (by first | rfl | assumption) ?_
    refine hv_aload_n dX12_tellOne_234 rfl ?_
    refine hv_geti dX12_tellOne_235 fl_X12_206 (by first | rfl | assumption) rfl ?_
    refine hv_iald dX12_tellOne_238 (by first | rfl | assumption) (j := a) h11 (by omega) (by first | decide | assumption) ?_
    rw [h67]
    refine hv_bipush (v := 27) dX12_tellOne_239 (by decide) ?_
    refine hv_icmp_le (tgt := 249) dX12_tellOne_241 (by decide) (fun c_241 => absurd c_241 (g3)) (fun c_241 => ?_)
    refine hv_aload_n dX12_tellOne_244 rfl ?_
    refine hv_iconst (v := 1) dX12_tellOne_245 (by decide) ?_
    refine hv_cv1 (d_fail (k := 1) rfl (Or.inl rfl) ht hs0) dX12_tellOne_246 ml_X12_218 mk_X12_fail (by first | rfl | assumption) rfl rfl rfl rfl rfl ?_
    rintro _ _ σ1 _ ⟨rfl, rfl, rfl, a1, a2, a3⟩
    have a30 : σ1 64 13 = 1 := a3.1
    refine hv_aload_n dX12_tellOne_249 rfl ?_
    refine hv_geti dX12_tellOne_250 fl_X12_203 (by first | rfl | assumption) rfl ?_
    refine hv_if_le (tgt := 257) dX12_tellOne_253 (by decide) (fun c_253 => absurd c_253 ((by rw [a30]; decide))) (fun c_253 => ?_)
    refine hv_vret dX12_tellOne_256 rfl ?_
    exact ⟨rfl, rfl, off_wk a1 (by decide), fun _ _ => rfl, kM_tr a2 kM_rf (Y := []) (by decide) (by decide), hlf_64 a1, by rw [eT]; exact a3, fun b l q => by rw [eT] at q; cases q⟩
end S9k

