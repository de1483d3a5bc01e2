/-! the reference's maker -/
abbrev m_X12_word (Q : hPo) : hMe := (hrm 1, 0, 0, yX12_word, cX12_word, 7, (some FieldType.long), shp, none, Q)
abbrev n_X12_init_65 (Q : hPo) : hMe := ({ frames := 2, cells := 44, slots := 10960, locals := 128 }, 44, 10960, yX12_init, cX12_init, 1, none, shp, some 65, Q)
def pL (o j : Nat) (v : Int64) (τ : hT) : hT := va_up τ o (vp_updL (τ o) j v)
theorem hfl_le : ∀ l, l ∈ hfl → l.length ≤ 100 := by decide
theorem hfs_r {ad : Nat → Nat} {r r' : hR} {σ : hS} {k : Nat} : ∀ (fl : List Bool) (j : Nat), (∀ i, j ≤ i → i < j + fl.length → r k i = r' k i) → hfs ad r σ k j fl = hfs ad r' σ k j fl
  | [], j, _ => rfl
  | b :: t, j, h => by
    rw [hfs, hfs, hfs_r t (j + 1) (fun i h1 h2 => h i (by omega) (by rw [List.length_cons]; omega))]
    congr 1
    cases b with
    | false => rfl
    | true =>
      show va_rf ((r k j).map ad) = va_rf ((r' k j).map ad)
      rw [h j (Nat.le_refl _) (by rw [List.length_cons]; omega)]
theorem hWd_r {ca : Nat → ClassId} {ad : Nat → Nat} {r r' : hR} {σ : hS} {τ : hT} : ∀ (Sh : hSh) (k : Nat), (∀ i, i < k + Sh.length → ∀ j, j < 100 → r i j = r' i j) → hWd ca ad r σ τ k Sh = hWd ca ad r' σ τ k Sh
  | [], k, _ => rfl
  | x :: t, k, h => by
    show (ad k, hEk ca ad r σ τ k x) :: hWd ca ad r σ τ (k + 1) t = (ad k, hEk ca ad r' σ τ k x) :: hWd ca ad r' σ τ (k + 1) t
    rw [hWd_r t (k + 1) (fun i i1 => h i (by rw [List.length_cons]; omega))]
    congr 2
    unfold hEk
    have hfle : (hfl.getD x.2 []).length ≤ 100 := by
      rw [List.getD_eq_getElem?_getD]
      cases hq : hfl[x.2]? with
      | none => exact Nat.zero_le _
      | some l => exact hfl_le l (List.mem_of_getElem? hq)
    rw [hfs_r (hfl.getD x.2 []) 0 (fun i _ h2 => h k (by rw [List.length_cons]; omega) i (by omega))]
section S9zd
variable {G : hGl} {M : hMe} {ck cn : Nat} {pc : Nat} {lv : List (Option Value)} {st : List Value} {r : hR} {σ : hS} {τ : hT} {Sh : hSh}
theorem hv_pL {k n j : Nat} {i : Int32} {x : Int64} (hd : decode (hmB M) pc = .ok (.lastore, 1)) (hk : hkd Sh k = (4, n)) (hi : i = nI j) (hj : j < n) (hb : n < 2 ^ 31) (h : hV G M ck cn Sh (pc + 1) lv st r σ (pL k j x τ)) : hV G M ck cn Sh pc lv (.long x :: .int i :: .ref (hgA G k) :: st) r σ τ := hv_last hd hk hi hj hb h
theorem hv_sh {Sh' : hSh} (he : Sh = Sh') (h : hV G M ck cn Sh' pc lv st r σ τ) : hV G M ck cn Sh pc lv st r σ τ := he ▸ h
theorem d_word {a b c d e f g : Nat} {r : hR} (ha : a = 0 ∨ (97 ≤ a ∧ a ≤ 122)) (hb : b = 0 ∨ (97 ≤ b ∧ b ≤ 122)) (hc : c = 0 ∨ (97 ≤ c ∧ c ≤ 122)) (hd : d = 0 ∨ (97 ≤ d ∧ d ≤ 122)) (he : e = 0 ∨ (97 ≤ e ∧ e ≤ 122)) (hf : f = 0 ∨ (97 ≤ f ∧ f ≤ 122)) (hg : g = 0 ∨ (97 ≤ g ∧ g ≤ 122)) : hCal G (m_X12_word (hEq (some (.long (lN (apN (apN (apN (apN (apN (apN (apN 0 a) b) c) d) e) f) g)))) r σ τ)) [.int (nI a), .int (nI b), .int (nI c), .int (nI d), .int (nI e), .int (nI f), .int (nI g)] shp r σ τ := by
  refine hv_enter pn_X12 rfl ?_
  refine hv_lconst (v := 0) dX12_word_0 (by decide) ?_
  refine hv_iload_n dX12_word_1 rfl ?_
  refine hv_cs2 (d_appends (d := 0) ha) dX12_word_2 ml_X12_177 mk_X12_appends rfl rfl rfl ?_
  rintro _ _ _ _ ⟨rfl, rfl, rfl, rfl⟩
  refine hv_iload_n dX12_word_5 rfl ?_
  refine hv_cs2 (d_appends hb) dX12_word_6 ml_X12_177 mk_X12_appends rfl rfl rfl ?_
  rintro _ _ _ _ ⟨rfl, rfl, rfl, rfl⟩
  refine hv_iload_n dX12_word_9 rfl ?_
  refine hv_cs2 (d_appends hc) dX12_word_10 ml_X12_177 mk_X12_appends rfl rfl rfl ?_
  rintro _ _ _ _ ⟨rfl, rfl, rfl, rfl⟩
  refine hv_iload_n dX12_word_13 rfl ?_
  refine hv_cs2 (d_appends hd) dX12_word_14 ml_X12_177 mk_X12_appends rfl rfl rfl ?_
  rintro _ _ _ _ ⟨rfl, rfl, rfl, rfl⟩
  refine hv_iload dX12_word_17 rfl ?_
  refine hv_cs2 (d_appends he) dX12_word_19 ml_X12_177 mk_X12_appends rfl rfl rfl ?_
  rintro _ _ _ _ ⟨rfl, rfl, rfl, rfl⟩
  refine hv_iload dX12_word_22 rfl ?_
  refine hv_cs2 (d_appends hf) dX12_word_24 ml_X12_177 mk_X12_appends rfl rfl rfl ?_
  rintro _ _ _ _ ⟨rfl, rfl, rfl, rfl⟩
  refine hv_iload dX12_word_27 rfl ?_
  refine hv_cs2 (d_appends hg) dX12_word_29 ml_X12_177 mk_X12_appends rfl rfl rfl ?_
  rintro _ _ _ _ ⟨rfl, rfl, rfl, rfl⟩
  refine hv_lret dX12_word_32 rfl ?_
  exact ⟨rfl, rfl, rfl, rfl⟩
end S9zd
/-- what the reference's cells hold at first -/
def fX12 (σ' : hS) : Prop := (σ' 64 2 = 0 ∧ σ' 64 17 = -1 ∧ σ' 64 18 = 0 ∧ σ' 64 57 = 0 ∧ σ' 64 61 = 0) ∧ (σ' 74 0 = 0 ∧ σ' 80 0 = 0 ∧ σ' 81 0 = 0 ∧ σ' 83 0 = 20 ∧ σ' 84 0 = 0 ∧ σ' 85 0 = 0) ∧ (∀ k, k < 5 → σ' 86 k = 0 ∧ σ' 87 k = 0) ∧ (∀ j, j < 37 → σ' 98 j = if j = 35 then 20 else if 28 ≤ j ∧ j < 35 then -2 else 0) ∧ ∀ s, s < 3 → σ' 107 s = 0
def pX12 (σ : hS) : hPo := fun v' r' σ' τ' => v' = none ∧ r' = rr 38 51 none none ∧ (∀ k, k < 64 → σ' k = σ k) ∧ fX12 σ' ∧ rKy τ'
def cR_X12 : hR := pR 64 65 108 (pR 64 64 107 (pR 64 63 106 (pR 64 62 105 (pR 64 59 104 (pR 64 58 103 (pR 64 56 102 (pR 64 55 101 (pR 64 54 100 (pR 64 52 99 (pR 64 51 98 (pR 64 49 97 (pR 64 48 96 (pR 64 46 95 (pR 64 45 94 (pR 64 44 93 (pR 64 42 92 (pR 64 41 91 (pR 64 40 90 (pR 64 39 89 (pR 64 38 88 (pR 64 36 87 (pR 64 35 86 (pR 64 34 85 (pR 64 33 84 (pR 64 32 83 (pR 64 31 82 (pR 64 30 81 (pR 64 29 80 (pR 64 28 79 (pR 64 27 78 (pR 64 26 77 (pR 64 25 76 (pR 64 24 75 (pR 64 23 74 (pR 64 22 73 (pR 64 21 72 (pR 64 9 71 (pR 64 8 70 (pR 64 7 69 (pR 64 6 68 (pR 64 5 67 (pR 64 3 66 (pR 64 1 65 (nO 64 (rr 38 51 none none)))))))))))))))))))))))))))))))))))))))))))))
def cS_X12 (σ : hS) : hS := nZ 108 (nZ 107 (nZ 106 (nZ 105 (nZ 104 (nZ 103 (nZ 102 (nZ 101 (nZ 100 (nZ 99 (nZ 98 (nZ 97 (nZ 96 (nZ 95 (nZ 94 (nZ 93 (nZ 92 (nZ 91 (nZ 90 (nZ 89 (nZ 88 (nZ 87 (nZ 86 (nZ 85 (nZ 84 (nZ 83 (nZ 82 (nZ 81 (nZ 80 (nZ 79 (nZ 78 (nZ 77 (nZ 76 (nZ 75 (nZ 74 (nZ 73 (pI 64 17 (-1) (nZ 69 (nZ 68 (nZ 67 (nZ 66 (nZ 65 (nZ 64 σ))))))))))))))))))))))))))))))))))))))))))
def cT_X12 (τ : hT) : hT := nL 72 (nL 71 (nL 70 (τ)))
set_option maxRecDepth 100000 in
theorem cR_X12_rr : ∀ k, k < 109 → ∀ j, j < 100 → cR_X12 k j = rr 38 51 none none k j := by decide +kernel
theorem cS_lo (σ : hS) : ∀ k, k < 64 → cS_X12 σ k = σ k := by
  intro k hk
  unfold cS_X12 nZ pI
  repeat rw [hva_ne (by omega)]
set_option maxRecDepth 100000 in
theorem keys_ok {τ : hT} : rKy (pL 71 22 (lN (apN (apN (apN (apN (apN (apN (apN 0 119) 104) 105) 99) 104) 0) 0)) (pL 71 21 (lN (apN (apN (apN (apN (apN (apN (apN 0 97) 116) 101) 0) 0) 0) 0)) (pL 71 20 (lN (apN (apN (apN (apN (apN (apN (apN 0 115) 97) 108) 116) 101) 100) 0)) (pL 71 19 (lN (apN (apN (apN (apN (apN (apN (apN 0 102) 101) 97) 114) 0) 0) 0)) (pL 71 18 (lN (apN (apN (apN (apN (apN (apN (apN 0 99) 111) 105) 110) 115) 0) 0)) (pL 71 17 (lN (apN (apN (apN (apN (apN (apN (apN 0 104) 117) 110) 103) 101) 114) 0)) (pL 71 16 (lN (apN (apN (apN (apN (apN (apN (apN 0 100) 97) 121) 0) 0) 0) 0)) (pL 71 15 (lN (apN (apN (apN (apN (apN (apN (apN 0 97) 108) 108) 0) 0) 0) 0)) (pL 71 14 (lN (apN (apN (apN (apN (apN (apN (apN 0 102) 105) 115) 104) 0) 0) 0)) (pL 71 13 (lN (apN (apN (apN (apN (apN (apN (apN 0 101) 108) 115) 101) 0) 0) 0)) (pL 71 12 (lN (apN (apN (apN (apN (apN (apN (apN 0 116) 104) 101) 110) 0) 0) 0)) (pL 71 11 (lN (apN (apN (apN (apN (apN (apN (apN 0 105) 102) 0) 0) 0) 0) 0)) (pL 71 10 (lN (apN (apN (apN (apN (apN (apN (apN 0 115) 101) 101) 100) 0) 0) 0)) (pL 71 9 (lN (apN (apN (apN (apN (apN (apN (apN 0 111) 100) 100) 115) 0) 0) 0)) (pL 71 8 (lN (apN (apN (apN (apN (apN (apN (apN 0 115) 97) 108) 116) 0) 0) 0)) (pL 71 7 (lN (apN (apN (apN (apN (apN (apN (apN 0 114) 111) 116) 115) 0) 0) 0)) (pL 71 6 (lN (apN (apN (apN (apN (apN (apN (apN 0 118) 111) 116) 101) 115) 0) 0)) (pL 71 5 (lN (apN (apN (apN (apN (apN (apN (apN 0 103) 108) 117) 116) 0) 0) 0)) (pL 71 4 (lN (apN (apN (apN (apN (apN (apN (apN 0 101) 97) 116) 115) 0) 0) 0)) (pL 71 3 (lN (apN (apN (apN (apN (apN (apN (apN 0 112) 114) 105) 99) 101) 0) 0)) (pL 71 2 (lN (apN (apN (apN (apN (apN (apN (apN 0 109) 111) 116) 105) 111) 110) 0)) (pL 71 1 (lN (apN (apN (apN (apN (apN (apN (apN 0 104) 101) 97) 114) 115) 0) 0)) (pL 71 0 (lN (apN (apN (apN (apN (apN (apN (apN 0 104) 111) 117) 115) 101) 0) 0)) (cT_X12 τ)))))))))))))))))))))))) := by
  have key : ∀ k, k < 23 → ([(apN (apN (apN (apN (apN (apN (apN 0 104) 111) 117) 115) 101) 0) 0), (apN (apN (apN (apN (apN (apN (apN 0 104) 101) 97) 114) 115) 0) 0), (apN (apN (apN (apN (apN (apN (apN 0 109) 111) 116) 105) 111) 110) 0), (apN (apN (apN (apN (apN (apN (apN 0 112) 114) 105) 99) 101) 0) 0), (apN (apN (apN (apN (apN (apN (apN 0 101) 97) 116) 115) 0) 0) 0), (apN (apN (apN (apN (apN (apN (apN 0 103) 108) 117) 116) 0) 0) 0), (apN (apN (apN (apN (apN (apN (apN 0 118) 111) 116) 101) 115) 0) 0), (apN (apN (apN (apN (apN (apN (apN 0 114) 111) 116) 115) 0) 0) 0), (apN (apN (apN (apN (apN (apN (apN 0 115) 97) 108) 116) 0) 0) 0), (apN (apN (apN (apN (apN (apN (apN 0 111) 100) 100) 115) 0) 0) 0), (apN (apN (apN (apN (apN (apN (apN 0 115) 101) 101) 100) 0) 0) 0), (apN (apN (apN (apN (apN (apN (apN 0 105) 102) 0) 0) 0) 0) 0), (apN (apN (apN (apN (apN (apN (apN 0 116) 104) 101) 110) 0) 0) 0), (apN (apN (apN (apN (apN (apN (apN 0 101) 108) 115) 101) 0) 0) 0), (apN (apN (apN (apN (apN (apN (apN 0 102) 105) 115) 104) 0) 0) 0), (apN (apN (apN (apN (apN (apN (apN 0 97) 108) 108) 0) 0) 0) 0), (apN (apN (apN (apN (apN (apN (apN 0 100) 97) 121) 0) 0) 0) 0), (apN (apN (apN (apN (apN (apN (apN 0 104) 117) 110) 103) 101) 114) 0), (apN (apN (apN (apN (apN (apN (apN 0 99) 111) 105) 110) 115) 0) 0), (apN (apN (apN (apN (apN (apN (apN 0 102) 101) 97) 114) 0) 0) 0), (apN (apN (apN (apN (apN (apN (apN 0 115) 97) 108) 116) 101) 100) 0), (apN (apN (apN (apN (apN (apN (apN 0 97) 116) 101) 0) 0) 0) 0), (apN (apN (apN (apN (apN (apN (apN 0 119) 104) 105) 99) 104) 0) 0)].getD k 0) = keyW k := by decide +kernel
  intro k hk
  rw [← key k hk]
  rcases (show k = 0 ∨ k = 1 ∨ k = 2 ∨ k = 3 ∨ k = 4 ∨ k = 5 ∨ k = 6 ∨ k = 7 ∨ k = 8 ∨ k = 9 ∨ k = 10 ∨ k = 11 ∨ k = 12 ∨ k = 13 ∨ k = 14 ∨ k = 15 ∨ k = 16 ∨ k = 17 ∨ k = 18 ∨ k = 19 ∨ k = 20 ∨ k = 21 ∨ k = 22 by omega) with rfl | rfl | rfl | rfl | rfl | rfl | rfl | rfl | rfl | rfl | rfl | rfl | rfl | rfl | rfl | rfl | rfl | rfl | rfl | rfl | rfl | rfl | rfl
  all_goals rfl
section S9ze
variable {G : hGl} {σ : hS} {τ : hT}
set_option maxRecDepth 100000 in
theorem k_X12_init (hg : hgN G) : hCal G (n_X12_init_65 (pX12 σ)) [.ref (hgA G 64)] (shp.take 65) (nO 64 (rr 38 51 none none)) (nZ 64 σ) τ := by
  have at369 : hV G (n_X12_init_65 (pX12 σ)) 44 10960 shp 369 [some (.ref (hgA G 64))] [] (rr 38 51 none none) (cS_X12 σ) (cT_X12 τ) := by
    refine hv_aload_n dX12_init_369 rfl ?_
    refine hv_iconst (v := 0) dX12_init_370 (by decide) ?_
    refine hv_cv1 (d_plain (L := 0) (by decide)) dX12_init_371 ml_X12_152 mk_X12_plain (by first | rfl | assumption) rfl rfl rfl rfl rfl ?_
    rintro _ _ σ1 _ ⟨rfl, rfl, rfl, o1, p74, p80, p81, p83, p84, p85, p79, p86, p87⟩
    refine hv_aload_n dX12_init_374 rfl ?_
    refine hv_getr dX12_init_375 fl_X12_34 (by first | rfl | assumption) rfl (by first | rfl | assumption) ?_
    refine hv_iconst (v := 0) dX12_init_378 (by decide) ?_
    refine hv_bipush (v := 104) dX12_init_379 (by decide) ?_
    refine hv_bipush (v := 111) dX12_init_381 (by decide) ?_
    refine hv_bipush (v := 117) dX12_init_383 (by decide) ?_
    refine hv_bipush (v := 115) dX12_init_385 (by decide) ?_
    refine hv_bipush (v := 101) dX12_init_387 (by decide) ?_
    refine hv_iconst (v := 0) dX12_init_389 (by decide) ?_
    refine hv_iconst (v := 0) dX12_init_390 (by decide) ?_
    refine hv_cs7 (d_word (G := G) (σ := σ1) (a := 104) (b := 111) (c := 117) (d := 115) (e := 101) (f := 0) (g := 0) (by decide) (by decide) (by decide) (by decide) (by decide) (by decide) (by decide)) dX12_init_391 ml_X12_156 mk_X12_word rfl rfl rfl ?_
    rintro _ _ _ _ ⟨rfl, rfl, rfl, rfl⟩
    refine hv_pL dX12_init_394 (by first | rfl | assumption) (j := 0) rfl (by decide) (by first | decide | assumption) ?_
    refine hv_aload_n dX12_init_395 rfl ?_
    refine hv_getr dX12_init_396 fl_X12_34 (by first | rfl | assumption) rfl (by first | rfl | assumption) ?_
    refine hv_iconst (v := 1) dX12_init_399 (by decide) ?_
    refine hv_bipush (v := 104) dX12_init_400 (by decide) ?_
    refine hv_bipush (v := 101) dX12_init_402 (by decide) ?_
    refine hv_bipush (v := 97) dX12_init_404 (by decide) ?_
    refine hv_bipush (v := 114) dX12_init_406 (by decide) ?_
    refine hv_bipush (v := 115) dX12_init_408 (by decide) ?_
    refine hv_iconst (v := 0) dX12_init_410 (by decide) ?_
    refine hv_iconst (v := 0) dX12_init_411 (by decide) ?_
    refine hv_cs7 (d_word (G := G) (σ := σ1) (a := 104) (b := 101) (c := 97) (d := 114) (e := 115) (f := 0) (g := 0) (by decide) (by decide) (by decide) (by decide) (by decide) (by decide) (by decide)) dX12_init_412 ml_X12_156 mk_X12_word rfl rfl rfl ?_
    rintro _ _ _ _ ⟨rfl, rfl, rfl, rfl⟩
    refine hv_pL dX12_init_415 (by first | rfl | assumption) (j := 1) rfl (by decide) (by first | decide | assumption) ?_
    refine hv_aload_n dX12_init_416 rfl ?_
    refine hv_getr dX12_init_417 fl_X12_34 (by first | rfl | assumption) rfl (by first | rfl | assumption) ?_
    refine hv_iconst (v := 2) dX12_init_420 (by decide) ?_
    refine hv_bipush (v := 109) dX12_init_421 (by decide) ?_
    refine hv_bipush (v := 111) dX12_init_423 (by decide) ?_
    refine hv_bipush (v := 116) dX12_init_425 (by decide) ?_
    refine hv_bipush (v := 105) dX12_init_427 (by decide) ?_
    refine hv_bipush (v := 111) dX12_init_429 (by decide) ?_
    refine hv_bipush (v := 110) dX12_init_431 (by decide) ?_
    refine hv_iconst (v := 0) dX12_init_433 (by decide) ?_
    refine hv_cs7 (d_word (G := G) (σ := σ1) (a := 109) (b := 111) (c := 116) (d := 105) (e := 111) (f := 110) (g := 0) (by decide) (by decide) (by decide) (by decide) (by decide) (by decide) (by decide)) dX12_init_434 ml_X12_156 mk_X12_word rfl rfl rfl ?_
    rintro _ _ _ _ ⟨rfl, rfl, rfl, rfl⟩
    refine hv_pL dX12_init_437 (by first | rfl | assumption) (j := 2) rfl (by decide) (by first | decide | assumption) ?_
    refine hv_aload_n dX12_init_438 rfl ?_
    refine hv_getr dX12_init_439 fl_X12_34 (by first | rfl | assumption) rfl (by first | rfl | assumption) ?_
    refine hv_iconst (v := 3) dX12_init_442 (by decide) ?_
    refine hv_bipush (v := 112) dX12_init_443 (by decide) ?_
    refine hv_bipush (v := 114) dX12_init_445 (by decide) ?_
    refine hv_bipush (v := 105) dX12_init_447 (by decide) ?_
    refine hv_bipush (v := 99) dX12_init_449 (by decide) ?_
    refine hv_bipush (v := 101) dX12_init_451 (by decide) ?_
    refine hv_iconst (v := 0) dX12_init_453 (by decide) ?_
    refine hv_iconst (v := 0) dX12_init_454 (by decide) ?_
    refine hv_cs7 (d_word (G := G) (σ := σ1) (a := 112) (b := 114) (c := 105) (d := 99) (e := 101) (f := 0) (g := 0) (by decide) (by decide) (by decide) (by decide) (by decide) (by decide) (by decide)) dX12_init_455 ml_X12_156 mk_X12_word rfl rfl rfl ?_
    rintro _ _ _ _ ⟨rfl, rfl, rfl, rfl⟩
    refine hv_pL dX12_init_458 (by first | rfl | assumption) (j := 3) rfl (by decide) (by first | decide | assumption) ?_
    refine hv_aload_n dX12_init_459 rfl ?_
    refine hv_getr dX12_init_460 fl_X12_34 (by first | rfl | assumption) rfl (by first | rfl | assumption) ?_
    refine hv_iconst (v := 4) dX12_init_463 (by decide) ?_
    refine hv_bipush (v := 101) dX12_init_464 (by decide) ?_
    refine hv_bipush (v := 97) dX12_init_466 (by decide) ?_
    refine hv_bipush (v := 116) dX12_init_468 (by decide) ?_
    refine hv_bipush (v := 115) dX12_init_470 (by decide) ?_
    refine hv_iconst (v := 0) dX12_init_472 (by decide) ?_
    refine hv_iconst (v := 0) dX12_init_473 (by decide) ?_
    refine hv_iconst (v := 0) dX12_init_474 (by decide) ?_
    refine hv_cs7 (d_word (G := G) (σ := σ1) (a := 101) (b := 97) (c := 116) (d := 115) (e := 0) (f := 0) (g := 0) (by decide) (by decide) (by decide) (by decide) (by decide) (by decide) (by decide)) dX12_init_475 ml_X12_156 mk_X12_word rfl rfl rfl ?_
    rintro _ _ _ _ ⟨rfl, rfl, rfl, rfl⟩
    refine hv_pL dX12_init_478 (by first | rfl | assumption) (j := 4) rfl (by decide) (by first | decide | assumption) ?_
    refine hv_aload_n dX12_init_479 rfl ?_
    refine hv_getr dX12_init_480 fl_X12_34 (by first | rfl | assumption) rfl (by first | rfl | assumption) ?_
    refine hv_iconst (v := 5) dX12_init_483 (by decide) ?_
    refine hv_bipush (v := 103) dX12_init_484 (by decide) ?_
    refine hv_bipush (v := 108) dX12_init_486 (by decide) ?_
    refine hv_bipush (v := 117) dX12_init_488 (by decide) ?_
    refine hv_bipush (v := 116) dX12_init_490 (by decide) ?_
    refine hv_iconst (v := 0) dX12_init_492 (by decide) ?_
    refine hv_iconst (v := 0) dX12_init_493 (by decide) ?_
    refine hv_iconst (v := 0) dX12_init_494 (by decide) ?_
    refine hv_cs7 (d_word (G := G) (σ := σ1) (a := 103) (b := 108) (c := 117) (d := 116) (e := 0) (f := 0) (g := 0) (by decide) (by decide) (by decide) (by decide) (by decide) (by decide) (by decide)) dX12_init_495 ml_X12_156 mk_X12_word rfl rfl rfl ?_
    rintro _ _ _ _ ⟨rfl, rfl, rfl, rfl⟩
    refine hv_pL dX12_init_498 (by first | rfl | assumption) (j := 5) rfl (by decide) (by first | decide | assumption) ?_
    refine hv_aload_n dX12_init_499 rfl ?_
    refine hv_getr dX12_init_500 fl_X12_34 (by first | rfl | assumption) rfl (by first | rfl | assumption) ?_
    refine hv_bipush (v := 6) dX12_init_503 (by decide) ?_
    refine hv_bipush (v := 118) dX12_init_505 (by decide) ?_
    refine hv_bipush (v := 111) dX12_init_507 (by decide) ?_
    refine hv_bipush (v := 116) dX12_init_509 (by decide) ?_
    refine hv_bipush (v := 101) dX12_init_511 (by decide) ?_
    refine hv_bipush (v := 115) dX12_init_513 (by decide) ?_
    refine hv_iconst (v := 0) dX12_init_515 (by decide) ?_
    refine hv_iconst (v := 0) dX12_init_516 (by decide) ?_
    refine hv_cs7 (d_word (G := G) (σ := σ1) (a := 118) (b := 111) (c := 116) (d := 101) (e := 115) (f := 0) (g := 0) (by decide) (by decide) (by decide) (by decide) (by decide) (by decide) (by decide)) dX12_init_517 ml_X12_156 mk_X12_word rfl rfl rfl ?_
    rintro _ _ _ _ ⟨rfl, rfl, rfl, rfl⟩
    refine hv_pL dX12_init_520 (by first | rfl | assumption) (j := 6) rfl (by decide) (by first | decide | assumption) ?_
    refine hv_aload_n dX12_init_521 rfl ?_
    refine hv_getr dX12_init_522 fl_X12_34 (by first | rfl | assumption) rfl (by first | rfl | assumption) ?_
    refine hv_bipush (v := 7) dX12_init_525 (by decide) ?_
    refine hv_bipush (v := 114) dX12_init_527 (by decide) ?_
    refine hv_bipush (v := 111) dX12_init_529 (by decide) ?_
    refine hv_bipush (v := 116) dX12_init_531 (by decide) ?_
    refine hv_bipush (v := 115) dX12_init_533 (by decide) ?_
    refine hv_iconst (v := 0) dX12_init_535 (by decide) ?_
    refine hv_iconst (v := 0) dX12_init_536 (by decide) ?_
    refine hv_iconst (v := 0) dX12_init_537 (by decide) ?_
    refine hv_cs7 (d_word (G := G) (σ := σ1) (a := 114) (b := 111) (c := 116) (d := 115) (e := 0) (f := 0) (g := 0) (by decide) (by decide) (by decide) (by decide) (by decide) (by decide) (by decide)) dX12_init_538 ml_X12_156 mk_X12_word rfl rfl rfl ?_
    rintro _ _ _ _ ⟨rfl, rfl, rfl, rfl⟩
    refine hv_pL dX12_init_541 (by first | rfl | assumption) (j := 7) rfl (by decide) (by first | decide | assumption) ?_
    refine hv_aload_n dX12_init_542 rfl ?_
    refine hv_getr dX12_init_543 fl_X12_34 (by first | rfl | assumption) rfl (by first | rfl | assumption) ?_
    refine hv_bipush (v := 8) dX12_init_546 (by decide) ?_
    refine hv_bipush (v := 115) dX12_init_548 (by decide) ?_
    refine hv_bipush (v := 97) dX12_init_550 (by decide) ?_
    refine hv_bipush (v := 108) dX12_init_552 (by decide) ?_
    refine hv_bipush (v := 116) dX12_init_554 (by decide) ?_
    refine hv_iconst (v := 0) dX12_init_556 (by decide) ?_
    refine hv_iconst (v := 0) dX12_init_557 (by decide) ?_
    refine hv_iconst (v := 0) dX12_init_558 (by decide) ?_
    refine hv_cs7 (d_word (G := G) (σ := σ1) (a := 115) (b := 97) (c := 108) (d := 116) (e := 0) (f := 0) (g := 0) (by decide) (by decide) (by decide) (by decide) (by decide) (by decide) (by decide)) dX12_init_559 ml_X12_156 mk_X12_word rfl rfl rfl ?_
    rintro _ _ _ _ ⟨rfl, rfl, rfl, rfl⟩
    refine hv_pL dX12_init_562 (by first | rfl | assumption) (j := 8) rfl (by decide) (by first | decide | assumption) ?_
    refine hv_aload_n dX12_init_563 rfl ?_
    refine hv_getr dX12_init_564 fl_X12_34 (by first | rfl | assumption) rfl (by first | rfl | assumption) ?_
    refine hv_bipush (v := 9) dX12_init_567 (by decide) ?_
    refine hv_bipush (v := 111) dX12_init_569 (by decide) ?_
    refine hv_bipush (v := 100) dX12_init_571 (by decide) ?_
    refine hv_bipush (v := 100) dX12_init_573 (by decide) ?_
    refine hv_bipush (v := 115) dX12_init_575 (by decide) ?_
    refine hv_iconst (v := 0) dX12_init_577 (by decide) ?_
    refine hv_iconst (v := 0) dX12_init_578 (by decide) ?_
    refine hv_iconst (v := 0) dX12_init_579 (by decide) ?_
    refine hv_cs7 (d_word (G := G) (σ := σ1) (a := 111) (b := 100) (c := 100) (d := 115) (e := 0) (f := 0) (g := 0) (by decide) (by decide) (by decide) (by decide) (by decide) (by decide) (by decide)) dX12_init_580 ml_X12_156 mk_X12_word rfl rfl rfl ?_
    rintro _ _ _ _ ⟨rfl, rfl, rfl, rfl⟩
    refine hv_pL dX12_init_583 (by first | rfl | assumption) (j := 9) rfl (by decide) (by first | decide | assumption) ?_
    refine hv_aload_n dX12_init_584 rfl ?_
    refine hv_getr dX12_init_585 fl_X12_34 (by first | rfl | assumption) rfl (by first | rfl | assumption) ?_
    refine hv_bipush (v := 10) dX12_init_588 (by decide) ?_
    refine hv_bipush (v := 115) dX12_init_590 (by decide) ?_
    refine hv_bipush (v := 101) dX12_init_592 (by decide) ?_
    refine hv_bipush (v := 101) dX12_init_594 (by decide) ?_
    refine hv_bipush (v := 100) dX12_init_596 (by decide) ?_
    refine hv_iconst (v := 0) dX12_init_598 (by decide) ?_
    refine hv_iconst (v := 0) dX12_init_599 (by decide) ?_
    refine hv_iconst (v := 0) dX12_init_600 (by decide) ?_
    refine hv_cs7 (d_word (G := G) (σ := σ1) (a := 115) (b := 101) (c := 101) (d := 100) (e := 0) (f := 0) (g := 0) (by decide) (by decide) (by decide) (by decide) (by decide) (by decide) (by decide)) dX12_init_601 ml_X12_156 mk_X12_word rfl rfl rfl ?_
    rintro _ _ _ _ ⟨rfl, rfl, rfl, rfl⟩
    refine hv_pL dX12_init_604 (by first | rfl | assumption) (j := 10) rfl (by decide) (by first | decide | assumption) ?_
    refine hv_aload_n dX12_init_605 rfl ?_
    refine hv_getr dX12_init_606 fl_X12_34 (by first | rfl | assumption) rfl (by first | rfl | assumption) ?_
    refine hv_bipush (v := 11) dX12_init_609 (by decide) ?_
    refine hv_bipush (v := 105) dX12_init_611 (by decide) ?_
    refine hv_bipush (v := 102) dX12_init_613 (by decide) ?_
    refine hv_iconst (v := 0) dX12_init_615 (by decide) ?_
    refine hv_iconst (v := 0) dX12_init_616 (by decide) ?_
    refine hv_iconst (v := 0) dX12_init_617 (by decide) ?_
    refine hv_iconst (v := 0) dX12_init_618 (by decide) ?_
    refine hv_iconst (v := 0) dX12_init_619 (by decide) ?_
    refine hv_cs7 (d_word (G := G) (σ := σ1) (a := 105) (b := 102) (c := 0) (d := 0) (e := 0) (f := 0) (g := 0) (by decide) (by decide) (by decide) (by decide) (by decide) (by decide) (by decide)) dX12_init_620 ml_X12_156 mk_X12_word rfl rfl rfl ?_
    rintro _ _ _ _ ⟨rfl, rfl, rfl, rfl⟩
    refine hv_pL dX12_init_623 (by first | rfl | assumption) (j := 11) rfl (by decide) (by first | decide | assumption) ?_
    refine hv_aload_n dX12_init_624 rfl ?_
    refine hv_getr dX12_init_625 fl_X12_34 (by first | rfl | assumption) rfl (by first | rfl | assumption) ?_
    refine hv_bipush (v := 12) dX12_init_628 (by decide) ?_
    refine hv_bipush (v := 116) dX12_init_630 (by decide) ?_
    refine hv_bipush (v := 104) dX12_init_632 (by decide) ?_
    refine hv_bipush (v := 101) dX12_init_634 (by decide) ?_
    refine hv_bipush (v := 110) dX12_init_636 (by decide) ?_
    refine hv_iconst (v := 0) dX12_init_638 (by decide) ?_
    refine hv_iconst (v := 0) dX12_init_639 (by decide) ?_
    refine hv_iconst (v := 0) dX12_init_640 (by decide) ?_
    refine hv_cs7 (d_word (G := G) (σ := σ1) (a := 116) (b := 104) (c := 101) (d := 110) (e := 0) (f := 0) (g := 0) (by decide) (by decide) (by decide) (by decide) (by decide) (by decide) (by decide)) dX12_init_641 ml_X12_156 mk_X12_word rfl rfl rfl ?_
    rintro _ _ _ _ ⟨rfl, rfl, rfl, rfl⟩
    refine hv_pL dX12_init_644 (by first | rfl | assumption) (j := 12) rfl (by decide) (by first | decide | assumption) ?_
    refine hv_aload_n dX12_init_645 rfl ?_
    refine hv_getr dX12_init_646 fl_X12_34 (by first | rfl | assumption) rfl (by first | rfl | assumption) ?_
    refine hv_bipush (v := 13) dX12_init_649 (by decide) ?_
    refine hv_bipush (v := 101) dX12_init_651 (by decide) ?_
    refine hv_bipush (v := 108) dX12_init_653 (by decide) ?_
    refine hv_bipush (v := 115) dX12_init_655 (by decide) ?_
    refine hv_bipush (v := 101) dX12_init_657 (by decide) ?_
    refine hv_iconst (v := 0) dX12_init_659 (by decide) ?_
    refine hv_iconst (v := 0) dX12_init_660 (by decide) ?_
    refine hv_iconst (v := 0) dX12_init_661 (by decide) ?_
    refine hv_cs7 (d_word (G := G) (σ := σ1) (a := 101) (b := 108) (c := 115) (d := 101) (e := 0) (f := 0) (g := 0) (by decide) (by decide) (by decide) (by decide) (by decide) (by decide) (by decide)) dX12_init_662 ml_X12_156 mk_X12_word rfl rfl rfl ?_
    rintro _ _ _ _ ⟨rfl, rfl, rfl, rfl⟩
    refine hv_pL dX12_init_665 (by first | rfl | assumption) (j := 13) rfl (by decide) (by first | decide | assumption) ?_
    refine hv_aload_n dX12_init_666 rfl ?_
    refine hv_getr dX12_init_667 fl_X12_34 (by first | rfl | assumption) rfl (by first | rfl | assumption) ?_
    refine hv_bipush (v := 14) dX12_init_670 (by decide) ?_
    refine hv_bipush (v := 102) dX12_init_672 (by decide) ?_
    refine hv_bipush (v := 105) dX12_init_674 (by decide) ?_
    refine hv_bipush (v := 115) dX12_init_676 (by decide) ?_
    refine hv_bipush (v := 104) dX12_init_678 (by decide) ?_
    refine hv_iconst (v := 0) dX12_init_680 (by decide) ?_
    refine hv_iconst (v := 0) dX12_init_681 (by decide) ?_
    refine hv_iconst (v := 0) dX12_init_682 (by decide) ?_
    refine hv_cs7 (d_word (G := G) (σ := σ1) (a := 102) (b := 105) (c := 115) (d := 104) (e := 0) (f := 0) (g := 0) (by decide) (by decide) (by decide) (by decide) (by decide) (by decide) (by decide)) dX12_init_683 ml_X12_156 mk_X12_word rfl rfl rfl ?_
    rintro _ _ _ _ ⟨rfl, rfl, rfl, rfl⟩
    refine hv_pL dX12_init_686 (by first | rfl | assumption) (j := 14) rfl (by decide) (by first | decide | assumption) ?_
    refine hv_aload_n dX12_init_687 rfl ?_
    refine hv_getr dX12_init_688 fl_X12_34 (by first | rfl | assumption) rfl (by first | rfl | assumption) ?_
    refine hv_bipush (v := 15) dX12_init_691 (by decide) ?_
    refine hv_bipush (v := 97) dX12_init_693 (by decide) ?_
    refine hv_bipush (v := 108) dX12_init_695 (by decide) ?_
    refine hv_bipush (v := 108) dX12_init_697 (by decide) ?_
    refine hv_iconst (v := 0) dX12_init_699 (by decide) ?_
    refine hv_iconst (v := 0) dX12_init_700 (by decide) ?_
    refine hv_iconst (v := 0) dX12_init_701 (by decide) ?_
    refine hv_iconst (v := 0) dX12_init_702 (by decide) ?_
    refine hv_cs7 (d_word (G := G) (σ := σ1) (a := 97) (b := 108) (c := 108) (d := 0) (e := 0) (f := 0) (g := 0) (by decide) (by decide) (by decide) (by decide) (by decide) (by decide) (by decide)) dX12_init_703 ml_X12_156 mk_X12_word rfl rfl rfl ?_
    rintro _ _ _ _ ⟨rfl, rfl, rfl, rfl⟩
    refine hv_pL dX12_init_706 (by first | rfl | assumption) (j := 15) rfl (by decide) (by first | decide | assumption) ?_
    refine hv_aload_n dX12_init_707 rfl ?_
    refine hv_getr dX12_init_708 fl_X12_34 (by first | rfl | assumption) rfl (by first | rfl | assumption) ?_
    refine hv_bipush (v := 16) dX12_init_711 (by decide) ?_
    refine hv_bipush (v := 100) dX12_init_713 (by decide) ?_
    refine hv_bipush (v := 97) dX12_init_715 (by decide) ?_
    refine hv_bipush (v := 121) dX12_init_717 (by decide) ?_
    refine hv_iconst (v := 0) dX12_init_719 (by decide) ?_
    refine hv_iconst (v := 0) dX12_init_720 (by decide) ?_
    refine hv_iconst (v := 0) dX12_init_721 (by decide) ?_
    refine hv_iconst (v := 0) dX12_init_722 (by decide) ?_
    refine hv_cs7 (d_word (G := G) (σ := σ1) (a := 100) (b := 97) (c := 121) (d := 0) (e := 0) (f := 0) (g := 0) (by decide) (by decide) (by decide) (by decide) (by decide) (by decide) (by decide)) dX12_init_723 ml_X12_156 mk_X12_word rfl rfl rfl ?_
    rintro _ _ _ _ ⟨rfl, rfl, rfl, rfl⟩
    refine hv_pL dX12_init_726 (by first | rfl | assumption) (j := 16) rfl (by decide) (by first | decide | assumption) ?_
    refine hv_aload_n dX12_init_727 rfl ?_
    refine hv_getr dX12_init_728 fl_X12_34 (by first | rfl | assumption) rfl (by first | rfl | assumption) ?_
    refine hv_bipush (v := 17) dX12_init_731 (by decide) ?_
    refine hv_bipush (v := 104) dX12_init_733 (by decide) ?_
    refine hv_bipush (v := 117) dX12_init_735 (by decide) ?_
    refine hv_bipush (v := 110) dX12_init_737 (by decide) ?_
    refine hv_bipush (v := 103) dX12_init_739 (by decide) ?_
    refine hv_bipush (v := 101) dX12_init_741 (by decide) ?_
    refine hv_bipush (v := 114) dX12_init_743 (by decide) ?_
    refine hv_iconst (v := 0) dX12_init_745 (by decide) ?_
    refine hv_cs7 (d_word (G := G) (σ := σ1) (a := 104) (b := 117) (c := 110) (d := 103) (e := 101) (f := 114) (g := 0) (by decide) (by decide) (by decide) (by decide) (by decide) (by decide) (by decide)) dX12_init_746 ml_X12_156 mk_X12_word rfl rfl rfl ?_
    rintro _ _ _ _ ⟨rfl, rfl, rfl, rfl⟩
    refine hv_pL dX12_init_749 (by first | rfl | assumption) (j := 17) rfl (by decide) (by first | decide | assumption) ?_
    refine hv_aload_n dX12_init_750 rfl ?_
    refine hv_getr dX12_init_751 fl_X12_34 (by first | rfl | assumption) rfl (by first | rfl | assumption) ?_
    refine hv_bipush (v := 18) dX12_init_754 (by decide) ?_
    refine hv_bipush (v := 99) dX12_init_756 (by decide) ?_
    refine hv_bipush (v := 111) dX12_init_758 (by decide) ?_
    refine hv_bipush (v := 105) dX12_init_760 (by decide) ?_
    refine hv_bipush (v := 110) dX12_init_762 (by decide) ?_
    refine hv_bipush (v := 115) dX12_init_764 (by decide) ?_
    refine hv_iconst (v := 0) dX12_init_766 (by decide) ?_
    refine hv_iconst (v := 0) dX12_init_767 (by decide) ?_
    refine hv_cs7 (d_word (G := G) (σ := σ1) (a := 99) (b := 111) (c := 105) (d := 110) (e := 115) (f := 0) (g := 0) (by decide) (by decide) (by decide) (by decide) (by decide) (by decide) (by decide)) dX12_init_768 ml_X12_156 mk_X12_word rfl rfl rfl ?_
    rintro _ _ _ _ ⟨rfl, rfl, rfl, rfl⟩
    refine hv_pL dX12_init_771 (by first | rfl | assumption) (j := 18) rfl (by decide) (by first | decide | assumption) ?_
    refine hv_aload_n dX12_init_772 rfl ?_
    refine hv_getr dX12_init_773 fl_X12_34 (by first | rfl | assumption) rfl (by first | rfl | assumption) ?_
    refine hv_bipush (v := 19) dX12_init_776 (by decide) ?_
    refine hv_bipush (v := 102) dX12_init_778 (by decide) ?_
    refine hv_bipush (v := 101) dX12_init_780 (by decide) ?_
    refine hv_bipush (v := 97) dX12_init_782 (by decide) ?_
    refine hv_bipush (v := 114) dX12_init_784 (by decide) ?_
    refine hv_iconst (v := 0) dX12_init_786 (by decide) ?_
    refine hv_iconst (v := 0) dX12_init_787 (by decide) ?_
    refine hv_iconst (v := 0) dX12_init_788 (by decide) ?_
    refine hv_cs7 (d_word (G := G) (σ := σ1) (a := 102) (b := 101) (c := 97) (d := 114) (e := 0) (f := 0) (g := 0) (by decide) (by decide) (by decide) (by decide) (by decide) (by decide) (by decide)) dX12_init_789 ml_X12_156 mk_X12_word rfl rfl rfl ?_
    rintro _ _ _ _ ⟨rfl, rfl, rfl, rfl⟩
    refine hv_pL dX12_init_792 (by first | rfl | assumption) (j := 19) rfl (by decide) (by first | decide | assumption) ?_
    refine hv_aload_n dX12_init_793 rfl ?_
    refine hv_getr dX12_init_794 fl_X12_34 (by first | rfl | assumption) rfl (by first | rfl | assumption) ?_
    refine hv_bipush (v := 20) dX12_init_797 (by decide) ?_
    refine hv_bipush (v := 115) dX12_init_799 (by decide) ?_
    refine hv_bipush (v := 97) dX12_init_801 (by decide) ?_
    refine hv_bipush (v := 108) dX12_init_803 (by decide) ?_
    refine hv_bipush (v := 116) dX12_init_805 (by decide) ?_
    refine hv_bipush (v := 101) dX12_init_807 (by decide) ?_
    refine hv_bipush (v := 100) dX12_init_809 (by decide) ?_
    refine hv_iconst (v := 0) dX12_init_811 (by decide) ?_
    refine hv_cs7 (d_word (G := G) (σ := σ1) (a := 115) (b := 97) (c := 108) (d := 116) (e := 101) (f := 100) (g := 0) (by decide) (by decide) (by decide) (by decide) (by decide) (by decide) (by decide)) dX12_init_812 ml_X12_156 mk_X12_word rfl rfl rfl ?_
    rintro _ _ _ _ ⟨rfl, rfl, rfl, rfl⟩
    refine hv_pL dX12_init_815 (by first | rfl | assumption) (j := 20) rfl (by decide) (by first | decide | assumption) ?_
    refine hv_aload_n dX12_init_816 rfl ?_
    refine hv_getr dX12_init_817 fl_X12_34 (by first | rfl | assumption) rfl (by first | rfl | assumption) ?_
    refine hv_bipush (v := 21) dX12_init_820 (by decide) ?_
    refine hv_bipush (v := 97) dX12_init_822 (by decide) ?_
    refine hv_bipush (v := 116) dX12_init_824 (by decide) ?_
    refine hv_bipush (v := 101) dX12_init_826 (by decide) ?_
    refine hv_iconst (v := 0) dX12_init_828 (by decide) ?_
    refine hv_iconst (v := 0) dX12_init_829 (by decide) ?_
    refine hv_iconst (v := 0) dX12_init_830 (by decide) ?_
    refine hv_iconst (v := 0) dX12_init_831 (by decide) ?_
    refine hv_cs7 (d_word (G := G) (σ := σ1) (a := 97) (b := 116) (c := 101) (d := 0) (e := 0) (f := 0) (g := 0) (by decide) (by decide) (by decide) (by decide) (by decide) (by decide) (by decide)) dX12_init_832 ml_X12_156 mk_X12_word rfl rfl rfl ?_
    rintro _ _ _ _ ⟨rfl, rfl, rfl, rfl⟩
    refine hv_pL dX12_init_835 (by first | rfl | assumption) (j := 21) rfl (by decide) (by first | decide | assumption) ?_
    refine hv_aload_n dX12_init_836 rfl ?_
    refine hv_getr dX12_init_837 fl_X12_34 (by first | rfl | assumption) rfl (by first | rfl | assumption) ?_
    refine hv_bipush (v := 22) dX12_init_840 (by decide) ?_
    refine hv_bipush (v := 119) dX12_init_842 (by decide) ?_
    refine hv_bipush (v := 104) dX12_init_844 (by decide) ?_
    refine hv_bipush (v := 105) dX12_init_846 (by decide) ?_
    refine hv_bipush (v := 99) dX12_init_848 (by decide) ?_
    refine hv_bipush (v := 104) dX12_init_850 (by decide) ?_
    refine hv_iconst (v := 0) dX12_init_852 (by decide) ?_
    refine hv_iconst (v := 0) dX12_init_853 (by decide) ?_
    refine hv_cs7 (d_word (G := G) (σ := σ1) (a := 119) (b := 104) (c := 105) (d := 99) (e := 104) (f := 0) (g := 0) (by decide) (by decide) (by decide) (by decide) (by decide) (by decide) (by decide)) dX12_init_854 ml_X12_156 mk_X12_word rfl rfl rfl ?_
    rintro _ _ _ _ ⟨rfl, rfl, rfl, rfl⟩
    refine hv_pL dX12_init_857 (by first | rfl | assumption) (j := 22) rfl (by decide) (by first | decide | assumption) ?_
    refine hv_aload_n dX12_init_858 rfl ?_
    refine hv_cv0 (d_begins (L := 0) (h := 0) (by rw [o1 64 (by decide)]; rfl) (by decide) (by rw [p74, pk_us]; rfl) (by decide)) dX12_init_859 ml_X12_160 mk_X12_begins (by first | rfl | assumption) rfl rfl rfl rfl rfl ?_
    rintro _ _ σ2 _ ⟨rfl, rfl, rfl, o2, b1, b2, b3⟩
    refine hv_aload_n dX12_init_862 rfl ?_
    refine hv_cv0 (d_keepsRow) dX12_init_863 ml_X12_163 mk_X12_keepsRow (by first | rfl | assumption) rfl rfl rfl rfl rfl ?_
    rintro _ _ σ3 _ ⟨rfl, rfl, rfl, o3, b4⟩
    refine hv_vret dX12_init_866 rfl ?_
    have o13 : ∀ k, k ∉ 64 :: 98 :: 99 :: xPl → σ3 k = cS_X12 σ k := off_tr (off_tr o1 o2 (Z := 64 :: 99 :: xPl) (by decide) (by decide)) o3 (by decide) (by decide)
    have e64 : ∀ j, j ≠ 53 → σ3 64 j = cS_X12 σ 64 j := fun j hj => by rw [o3 64 (by decide), b1 j (by simpa using hj), o1 64 (by decide)]
    have e1 : ∀ c, c ∈ xPl → σ3 c = σ1 c := fun c hc => (o3 c (by revert c; decide)).trans (o2 c (by revert c; decide))
    refine ⟨rfl, rfl, fun k hk => ?_, ⟨⟨?_, ?_, ?_, ?_, ?_⟩, ⟨?_, ?_, ?_, ?_, ?_, ?_⟩, fun k hk => ⟨?_, ?_⟩, fun j hj => ?_, fun s hs => ?_⟩, ?_⟩
    · rw [o13 k (by simp only [List.mem_cons, List.not_mem_nil, or_false, not_or]; omega)]
      exact cS_lo σ k hk
    · rw [e64 2 (by decide)]; rfl
    · rw [e64 17 (by decide)]; rfl
    · rw [e64 18 (by decide)]; rfl
    · rw [e64 57 (by decide)]; rfl
    · rw [e64 61 (by decide)]; rfl
    · rw [e1 74 (by decide), p74, pk_us]
    · rw [e1 80 (by decide), p80, pk_us]
    · rw [e1 81 (by decide), p81, pk_us]
    · rw [e1 83 (by decide), p83, pk_us]
    · rw [e1 84 (by decide), p84, pk_us]
    · rw [e1 85 (by decide), p85, pk_us]
    · rw [e1 86 (by decide)]; have := p86.1 k hk; rw [Nat.mul_zero, Nat.zero_add] at this; exact this
    · rw [e1 87 (by decide)]; have := p87.1 k hk; rw [Nat.mul_zero, Nat.zero_add] at this; exact this
    · rw [b4 j hj, b3 j hj, p83, pk_us]
      by_cases e : j = 35
      · rw [if_pos e, if_pos e]
      · rw [if_neg e, if_neg e]
        unfold bgR
        rw [if_neg (by omega), if_neg (by omega)]
    · rw [o13 107 (by decide)]; rfl
    · intro k hk
      exact keys_ok k hk
  refine hv_enter pn_X12 rfl ?_
  refine hv_aload_n dX12_init_0 rfl ?_
  refine hv_obj dX12_init_1 ol_X12 rfl rfl ?_
  refine hv_aload_n dX12_init_4 rfl ?_
  refine hv_sipush (v := 2000) dX12_init_5 (by decide) ?_
  refine hv_new_byte (n := 65) (N := 2000) (Sh' := shp.take 66) dX12_init_8 rfl rfl hg rfl rfl (by decide) (by decide) rfl rfl ?_
  refine hv_pF dX12_init_10 fl_X12_13 (by first | rfl | assumption) rfl rfl (fun _ _ _ h => by cases h; rfl) rfl rfl ?_
  refine hv_aload_n dX12_init_13 rfl ?_
  refine hv_sipush (v := 2000) dX12_init_14 (by decide) ?_
  refine hv_new_byte (n := 66) (N := 2000) (Sh' := shp.take 67) dX12_init_17 rfl rfl hg rfl rfl (by decide) (by decide) rfl rfl ?_
  refine hv_pF dX12_init_19 fl_X12_17 (by first | rfl | assumption) rfl rfl (fun _ _ _ h => by cases h; rfl) rfl rfl ?_
  refine hv_aload_n dX12_init_22 rfl ?_
  refine hv_sipush (v := 403) dX12_init_23 (by decide) ?_
  refine hv_new_int (n := 67) (N := 403) (Sh' := shp.take 68) dX12_init_26 rfl rfl hg rfl rfl (by decide) (by decide) rfl rfl ?_
  refine hv_pF dX12_init_28 fl_X12_20 (by first | rfl | assumption) rfl rfl (fun _ _ _ h => by cases h; rfl) rfl rfl ?_
  refine hv_aload_n dX12_init_31 rfl ?_
  refine hv_sipush (v := 403) dX12_init_32 (by decide) ?_
  refine hv_new_int (n := 68) (N := 403) (Sh' := shp.take 69) dX12_init_35 rfl rfl hg rfl rfl (by decide) (by decide) rfl rfl ?_
  refine hv_pF dX12_init_37 fl_X12_24 (by first | rfl | assumption) rfl rfl (fun _ _ _ h => by cases h; rfl) rfl rfl ?_
  refine hv_aload_n dX12_init_40 rfl ?_
  refine hv_sipush (v := 403) dX12_init_41 (by decide) ?_
  refine hv_new_int (n := 69) (N := 403) (Sh' := shp.take 70) dX12_init_44 rfl rfl hg rfl rfl (by decide) (by decide) rfl rfl ?_
  refine hv_pF dX12_init_46 fl_X12_27 (by first | rfl | assumption) rfl rfl (fun _ _ _ h => by cases h; rfl) rfl rfl ?_
  refine hv_aload_n dX12_init_49 rfl ?_
  refine hv_sipush (v := 403) dX12_init_50 (by decide) ?_
  refine hv_new_long (n := 70) (N := 403) (Sh' := shp.take 71) dX12_init_53 rfl rfl hg rfl rfl (by decide) (by decide) rfl rfl ?_
  refine hv_pF dX12_init_55 fl_X12_30 (by first | rfl | assumption) rfl rfl (fun _ _ _ h => by cases h; rfl) rfl rfl ?_
  refine hv_aload_n dX12_init_58 rfl ?_
  refine hv_bipush (v := 23) dX12_init_59 (by decide) ?_
  refine hv_new_long (n := 71) (N := 23) (Sh' := shp.take 72) dX12_init_61 rfl rfl hg rfl rfl (by decide) (by decide) rfl rfl ?_
  refine hv_pF dX12_init_63 fl_X12_34 (by first | rfl | assumption) rfl rfl (fun _ _ _ h => by cases h; rfl) rfl rfl ?_
  refine hv_aload_n dX12_init_66 rfl ?_
  refine hv_iconst (v := -1) dX12_init_67 (by decide) ?_
  refine hv_pI dX12_init_68 fl_X12_37 (by first | rfl | assumption) rfl rfl rfl ?_
  refine hv_aload_n dX12_init_71 rfl ?_
  refine hv_bipush (v := 12) dX12_init_72 (by decide) ?_
  refine hv_new_long (n := 72) (N := 12) (Sh' := shp.take 73) dX12_init_74 rfl rfl hg rfl rfl (by decide) (by decide) rfl rfl ?_
  refine hv_pF dX12_init_76 fl_X12_40 (by first | rfl | assumption) rfl rfl (fun _ _ _ h => by cases h; rfl) rfl rfl ?_
  refine hv_aload_n dX12_init_79 rfl ?_
  refine hv_bipush (v := 12) dX12_init_80 (by decide) ?_
  refine hv_new_int (n := 73) (N := 12) (Sh' := shp.take 74) dX12_init_82 rfl rfl hg rfl rfl (by decide) (by decide) rfl rfl ?_
  refine hv_pF dX12_init_84 fl_X12_43 (by first | rfl | assumption) rfl rfl (fun _ _ _ h => by cases h; rfl) rfl rfl ?_
  refine hv_aload_n dX12_init_87 rfl ?_
  refine hv_iconst (v := 2) dX12_init_88 (by decide) ?_
  refine hv_new_int (n := 74) (N := 2) (Sh' := shp.take 75) dX12_init_89 rfl rfl hg rfl rfl (by decide) (by decide) rfl rfl ?_
  refine hv_pF dX12_init_91 fl_X12_46 (by first | rfl | assumption) rfl rfl (fun _ _ _ h => by cases h; rfl) rfl rfl ?_
  refine hv_aload_n dX12_init_94 rfl ?_
  refine hv_bipush (v := 14) dX12_init_95 (by decide) ?_
  refine hv_new_int (n := 75) (N := 14) (Sh' := shp.take 76) dX12_init_97 rfl rfl hg rfl rfl (by decide) (by decide) rfl rfl ?_
  refine hv_pF dX12_init_99 fl_X12_49 (by first | rfl | assumption) rfl rfl (fun _ _ _ h => by cases h; rfl) rfl rfl ?_
  refine hv_aload_n dX12_init_102 rfl ?_
  refine hv_bipush (v := 14) dX12_init_103 (by decide) ?_
  refine hv_new_int (n := 76) (N := 14) (Sh' := shp.take 77) dX12_init_105 rfl rfl hg rfl rfl (by decide) (by decide) rfl rfl ?_
  refine hv_pF dX12_init_107 fl_X12_52 (by first | rfl | assumption) rfl rfl (fun _ _ _ h => by cases h; rfl) rfl rfl ?_
  refine hv_aload_n dX12_init_110 rfl ?_
  refine hv_bipush (v := 14) dX12_init_111 (by decide) ?_
  refine hv_new_int (n := 77) (N := 14) (Sh' := shp.take 78) dX12_init_113 rfl rfl hg rfl rfl (by decide) (by decide) rfl rfl ?_
  refine hv_pF dX12_init_115 fl_X12_55 (by first | rfl | assumption) rfl rfl (fun _ _ _ h => by cases h; rfl) rfl rfl ?_
  refine hv_aload_n dX12_init_118 rfl ?_
  refine hv_bipush (v := 14) dX12_init_119 (by decide) ?_
  refine hv_new_int (n := 78) (N := 14) (Sh' := shp.take 79) dX12_init_121 rfl rfl hg rfl rfl (by decide) (by decide) rfl rfl ?_
  refine hv_pF dX12_init_123 fl_X12_58 (by first | rfl | assumption) rfl rfl (fun _ _ _ h => by cases h; rfl) rfl rfl ?_
  refine hv_aload_n dX12_init_126 rfl ?_
  refine hv_bipush (v := 14) dX12_init_127 (by decide) ?_
  refine hv_new_int (n := 79) (N := 14) (Sh' := shp.take 80) dX12_init_129 rfl rfl hg rfl rfl (by decide) (by decide) rfl rfl ?_
  refine hv_pF dX12_init_131 fl_X12_61 (by first | rfl | assumption) rfl rfl (fun _ _ _ h => by cases h; rfl) rfl rfl ?_
  refine hv_aload_n dX12_init_134 rfl ?_
  refine hv_iconst (v := 2) dX12_init_135 (by decide) ?_
  refine hv_new_int (n := 80) (N := 2) (Sh' := shp.take 81) dX12_init_136 rfl rfl hg rfl rfl (by decide) (by decide) rfl rfl ?_
  refine hv_pF dX12_init_138 fl_X12_64 (by first | rfl | assumption) rfl rfl (fun _ _ _ h => by cases h; rfl) rfl rfl ?_
  refine hv_aload_n dX12_init_141 rfl ?_
  refine hv_iconst (v := 2) dX12_init_142 (by decide) ?_
  refine hv_new_int (n := 81) (N := 2) (Sh' := shp.take 82) dX12_init_143 rfl rfl hg rfl rfl (by decide) (by decide) rfl rfl ?_
  refine hv_pF dX12_init_145 fl_X12_67 (by first | rfl | assumption) rfl rfl (fun _ _ _ h => by cases h; rfl) rfl rfl ?_
  refine hv_aload_n dX12_init_148 rfl ?_
  refine hv_bipush (v := 10) dX12_init_149 (by decide) ?_
  refine hv_new_int (n := 82) (N := 10) (Sh' := shp.take 83) dX12_init_151 rfl rfl hg rfl rfl (by decide) (by decide) rfl rfl ?_
  refine hv_pF dX12_init_153 fl_X12_70 (by first | rfl | assumption) rfl rfl (fun _ _ _ h => by cases h; rfl) rfl rfl ?_
  refine hv_aload_n dX12_init_156 rfl ?_
  refine hv_iconst (v := 2) dX12_init_157 (by decide) ?_
  refine hv_new_int (n := 83) (N := 2) (Sh' := shp.take 84) dX12_init_158 rfl rfl hg rfl rfl (by decide) (by decide) rfl rfl ?_
  refine hv_pF dX12_init_160 fl_X12_73 (by first | rfl | assumption) rfl rfl (fun _ _ _ h => by cases h; rfl) rfl rfl ?_
  refine hv_aload_n dX12_init_163 rfl ?_
  refine hv_iconst (v := 2) dX12_init_164 (by decide) ?_
  refine hv_new_int (n := 84) (N := 2) (Sh' := shp.take 85) dX12_init_165 rfl rfl hg rfl rfl (by decide) (by decide) rfl rfl ?_
  refine hv_pF dX12_init_167 fl_X12_76 (by first | rfl | assumption) rfl rfl (fun _ _ _ h => by cases h; rfl) rfl rfl ?_
  refine hv_aload_n dX12_init_170 rfl ?_
  refine hv_iconst (v := 2) dX12_init_171 (by decide) ?_
  refine hv_new_int (n := 85) (N := 2) (Sh' := shp.take 86) dX12_init_172 rfl rfl hg rfl rfl (by decide) (by decide) rfl rfl ?_
  refine hv_pF dX12_init_174 fl_X12_79 (by first | rfl | assumption) rfl rfl (fun _ _ _ h => by cases h; rfl) rfl rfl ?_
  refine hv_aload_n dX12_init_177 rfl ?_
  refine hv_bipush (v := 10) dX12_init_178 (by decide) ?_
  refine hv_new_int (n := 86) (N := 10) (Sh' := shp.take 87) dX12_init_180 rfl rfl hg rfl rfl (by decide) (by decide) rfl rfl ?_
  refine hv_pF dX12_init_182 fl_X12_82 (by first | rfl | assumption) rfl rfl (fun _ _ _ h => by cases h; rfl) rfl rfl ?_
  refine hv_aload_n dX12_init_185 rfl ?_
  refine hv_bipush (v := 10) dX12_init_186 (by decide) ?_
  refine hv_new_int (n := 87) (N := 10) (Sh' := shp.take 88) dX12_init_188 rfl rfl hg rfl rfl (by decide) (by decide) rfl rfl ?_
  refine hv_pF dX12_init_190 fl_X12_85 (by first | rfl | assumption) rfl rfl (fun _ _ _ h => by cases h; rfl) rfl rfl ?_
  refine hv_aload_n dX12_init_193 rfl ?_
  refine hv_sipush (v := 260) dX12_init_194 (by decide) ?_
  refine hv_new_boolean (n := 88) (N := 260) (Sh' := shp.take 89) dX12_init_197 rfl rfl hg rfl rfl (by decide) (by decide) rfl rfl ?_
  refine hv_pF dX12_init_199 fl_X12_88 (by first | rfl | assumption) rfl rfl (fun _ _ _ h => by cases h; rfl) rfl rfl ?_
  refine hv_aload_n dX12_init_202 rfl ?_
  refine hv_sipush (v := 260) dX12_init_203 (by decide) ?_
  refine hv_new_int (n := 89) (N := 260) (Sh' := shp.take 90) dX12_init_206 rfl rfl hg rfl rfl (by decide) (by decide) rfl rfl ?_
  refine hv_pF dX12_init_208 fl_X12_92 (by first | rfl | assumption) rfl rfl (fun _ _ _ h => by cases h; rfl) rfl rfl ?_
  refine hv_aload_n dX12_init_211 rfl ?_
  refine hv_sipush (v := 260) dX12_init_212 (by decide) ?_
  refine hv_new_int (n := 90) (N := 260) (Sh' := shp.take 91) dX12_init_215 rfl rfl hg rfl rfl (by decide) (by decide) rfl rfl ?_
  refine hv_pF dX12_init_217 fl_X12_95 (by first | rfl | assumption) rfl rfl (fun _ _ _ h => by cases h; rfl) rfl rfl ?_
  refine hv_aload_n dX12_init_220 rfl ?_
  refine hv_sipush (v := 260) dX12_init_221 (by decide) ?_
  refine hv_new_int (n := 91) (N := 260) (Sh' := shp.take 92) dX12_init_224 rfl rfl hg rfl rfl (by decide) (by decide) rfl rfl ?_
  refine hv_pF dX12_init_226 fl_X12_98 (by first | rfl | assumption) rfl rfl (fun _ _ _ h => by cases h; rfl) rfl rfl ?_
  refine hv_aload_n dX12_init_229 rfl ?_
  refine hv_sipush (v := 260) dX12_init_230 (by decide) ?_
  refine hv_new_int (n := 92) (N := 260) (Sh' := shp.take 93) dX12_init_233 rfl rfl hg rfl rfl (by decide) (by decide) rfl rfl ?_
  refine hv_pF dX12_init_235 fl_X12_101 (by first | rfl | assumption) rfl rfl (fun _ _ _ h => by cases h; rfl) rfl rfl ?_
  refine hv_aload_n dX12_init_238 rfl ?_
  refine hv_sipush (v := 840) dX12_init_239 (by decide) ?_
  refine hv_new_int (n := 93) (N := 840) (Sh' := shp.take 94) dX12_init_242 rfl rfl hg rfl rfl (by decide) (by decide) rfl rfl ?_
  refine hv_pF dX12_init_244 fl_X12_104 (by first | rfl | assumption) rfl rfl (fun _ _ _ h => by cases h; rfl) rfl rfl ?_
  refine hv_aload_n dX12_init_247 rfl ?_
  refine hv_sipush (v := 840) dX12_init_248 (by decide) ?_
  refine hv_new_int (n := 94) (N := 840) (Sh' := shp.take 95) dX12_init_251 rfl rfl hg rfl rfl (by decide) (by decide) rfl rfl ?_
  refine hv_pF dX12_init_253 fl_X12_107 (by first | rfl | assumption) rfl rfl (fun _ _ _ h => by cases h; rfl) rfl rfl ?_
  refine hv_aload_n dX12_init_256 rfl ?_
  refine hv_bipush (v := 64) dX12_init_257 (by decide) ?_
  refine hv_new_int (n := 95) (N := 64) (Sh' := shp.take 96) dX12_init_259 rfl rfl hg rfl rfl (by decide) (by decide) rfl rfl ?_
  refine hv_pF dX12_init_261 fl_X12_110 (by first | rfl | assumption) rfl rfl (fun _ _ _ h => by cases h; rfl) rfl rfl ?_
  refine hv_aload_n dX12_init_264 rfl ?_
  refine hv_bipush (v := 9) dX12_init_265 (by decide) ?_
  refine hv_new_int (n := 96) (N := 9) (Sh' := shp.take 97) dX12_init_267 rfl rfl hg rfl rfl (by decide) (by decide) rfl rfl ?_
  refine hv_pF dX12_init_269 fl_X12_113 (by first | rfl | assumption) rfl rfl (fun _ _ _ h => by cases h; rfl) rfl rfl ?_
  refine hv_aload_n dX12_init_272 rfl ?_
  refine hv_sipush (v := 400) dX12_init_273 (by decide) ?_
  refine hv_new_int (n := 97) (N := 400) (Sh' := shp.take 98) dX12_init_276 rfl rfl hg rfl rfl (by decide) (by decide) rfl rfl ?_
  refine hv_pF dX12_init_278 fl_X12_116 (by first | rfl | assumption) rfl rfl (fun _ _ _ h => by cases h; rfl) rfl rfl ?_
  refine hv_aload_n dX12_init_281 rfl ?_
  refine hv_bipush (v := 37) dX12_init_282 (by decide) ?_
  refine hv_new_int (n := 98) (N := 37) (Sh' := shp.take 99) dX12_init_284 rfl rfl hg rfl rfl (by decide) (by decide) rfl rfl ?_
  refine hv_pF dX12_init_286 fl_X12_119 (by first | rfl | assumption) rfl rfl (fun _ _ _ h => by cases h; rfl) rfl rfl ?_
  refine hv_aload_n dX12_init_289 rfl ?_
  refine hv_bipush (v := 37) dX12_init_290 (by decide) ?_
  refine hv_new_int (n := 99) (N := 37) (Sh' := shp.take 100) dX12_init_292 rfl rfl hg rfl rfl (by decide) (by decide) rfl rfl ?_
  refine hv_pF dX12_init_294 fl_X12_122 (by first | rfl | assumption) rfl rfl (fun _ _ _ h => by cases h; rfl) rfl rfl ?_
  refine hv_aload_n dX12_init_297 rfl ?_
  refine hv_bipush (v := 7) dX12_init_298 (by decide) ?_
  refine hv_new_int (n := 100) (N := 7) (Sh' := shp.take 101) dX12_init_300 rfl rfl hg rfl rfl (by decide) (by decide) rfl rfl ?_
  refine hv_pF dX12_init_302 fl_X12_125 (by first | rfl | assumption) rfl rfl (fun _ _ _ h => by cases h; rfl) rfl rfl ?_
  refine hv_aload_n dX12_init_305 rfl ?_
  refine hv_bipush (v := 7) dX12_init_306 (by decide) ?_
  refine hv_new_int (n := 101) (N := 7) (Sh' := shp.take 102) dX12_init_308 rfl rfl hg rfl rfl (by decide) (by decide) rfl rfl ?_
  refine hv_pF dX12_init_310 fl_X12_128 (by first | rfl | assumption) rfl rfl (fun _ _ _ h => by cases h; rfl) rfl rfl ?_
  refine hv_aload_n dX12_init_313 rfl ?_
  refine hv_bipush (v := 7) dX12_init_314 (by decide) ?_
  refine hv_new_int (n := 102) (N := 7) (Sh' := shp.take 103) dX12_init_316 rfl rfl hg rfl rfl (by decide) (by decide) rfl rfl ?_
  refine hv_pF dX12_init_318 fl_X12_131 (by first | rfl | assumption) rfl rfl (fun _ _ _ h => by cases h; rfl) rfl rfl ?_
  refine hv_aload_n dX12_init_321 rfl ?_
  refine hv_sipush (v := 1480) dX12_init_322 (by decide) ?_
  refine hv_new_int (n := 103) (N := 1480) (Sh' := shp.take 104) dX12_init_325 rfl rfl hg rfl rfl (by decide) (by decide) rfl rfl ?_
  refine hv_pF dX12_init_327 fl_X12_134 (by first | rfl | assumption) rfl rfl (fun _ _ _ h => by cases h; rfl) rfl rfl ?_
  refine hv_aload_n dX12_init_330 rfl ?_
  refine hv_bipush (v := 7) dX12_init_331 (by decide) ?_
  refine hv_new_int (n := 104) (N := 7) (Sh' := shp.take 105) dX12_init_333 rfl rfl hg rfl rfl (by decide) (by decide) rfl rfl ?_
  refine hv_pF dX12_init_335 fl_X12_137 (by first | rfl | assumption) rfl rfl (fun _ _ _ h => by cases h; rfl) rfl rfl ?_
  refine hv_aload_n dX12_init_338 rfl ?_
  refine hv_bipush (v := 20) dX12_init_339 (by decide) ?_
  refine hv_new_int (n := 105) (N := 20) (Sh' := shp.take 106) dX12_init_341 rfl rfl hg rfl rfl (by decide) (by decide) rfl rfl ?_
  refine hv_pF dX12_init_343 fl_X12_140 (by first | rfl | assumption) rfl rfl (fun _ _ _ h => by cases h; rfl) rfl rfl ?_
  refine hv_aload_n dX12_init_346 rfl ?_
  refine hv_bipush (v := 20) dX12_init_347 (by decide) ?_
  refine hv_new_int (n := 106) (N := 20) (Sh' := shp.take 107) dX12_init_349 rfl rfl hg rfl rfl (by decide) (by decide) rfl rfl ?_
  refine hv_pF dX12_init_351 fl_X12_143 (by first | rfl | assumption) rfl rfl (fun _ _ _ h => by cases h; rfl) rfl rfl ?_
  refine hv_aload_n dX12_init_354 rfl ?_
  refine hv_iconst (v := 3) dX12_init_355 (by decide) ?_
  refine hv_new_boolean (n := 107) (N := 3) (Sh' := shp.take 108) dX12_init_356 rfl rfl hg rfl rfl (by decide) (by decide) rfl rfl ?_
  refine hv_pF dX12_init_358 fl_X12_146 (by first | rfl | assumption) rfl rfl (fun _ _ _ h => by cases h; rfl) rfl rfl ?_
  refine hv_aload_n dX12_init_361 rfl ?_
  refine hv_bipush (v := 111) dX12_init_362 (by decide) ?_
  refine hv_new_int (n := 108) (N := 111) (Sh' := shp.take 109) dX12_init_364 rfl rfl hg rfl rfl (by decide) (by decide) rfl rfl ?_
  refine hv_pF dX12_init_366 fl_X12_149 (by first | rfl | assumption) rfl rfl (fun _ _ _ h => by cases h; rfl) rfl rfl ?_
  refine hv_sh (Sh' := shp) rfl (hv_cg (r' := rr 38 51 none none) (hWd_r shp 0 (fun i hi j hj => cR_X12_rr i (by rw [shp_len] at hi; omega) j hj)) at369)
end S9ze

