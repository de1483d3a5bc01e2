/-! what each TELL does to how the reference stands -/
section S9j
variable {f : hF} {n L h r m s : Nat} {dT : Nat → Nat} {ix : Nat → Option Nat} {X : Sum (Nat × Nat) hSm} {σ σ' : hS} {τ τ' : hT} {r0 r1 : hR} {v1 : Option Value}
theorem st_house (hI : smI f n L h r m s dT ix X σ) (hN : nmM h m dT ix σ τ) (k0 : kd f n s = 0) (hh : h < 7) (hp : tlP (kd f n) s (s + 7) none) (hx : hsX (kd f n) (s + 1) = .inr (s + 7, ())) (P : pTh f n L h m (s + 1) dT (lft X) r0 σ τ v1 r1 σ' τ') : ∃ dT' ix', nmM (h + 1) m dT' ix' σ' τ' ∧ smI f n L (h + 1) r m (s + 7) dT' ix' (stX (kd f n) (vl f n) (dg f n) X s (s + 7)) σ' := by
  obtain ⟨-, -, o1, o2, k1, ⟨f74, f75, f76, f77, f78⟩, -, fin⟩ := P
  obtain ⟨⟨g1, g2, g3, g4⟩, ⟨v1, v2, v3, v4⟩, w⟩ := fin _ _ hx
  obtain ⟨-, q1, q2, q3, q4, q5⟩ := hp.2.2.1 k0
  have hm5 := hN.2.2.1
  have est : ∀ S, smTell (kd f n) (vl f n) (dg f n) S s (s + 7) = smHouse (vl f n) (dg f n) S s := fun S => by unfold smTell; rw [if_pos k0]
  refine ⟨upN dT (h + m) (dg f n (s + 1)), ixS ix (h + m) (some h), nmM_add hN (by omega) (by omega) (by omega) hm5 (dg_lt q1) (fun i hi => by cases hi; omega) g2 g3 g4, smI_in hI hp ?_ ?_⟩
  · rcases X with e | S
    · have : hoG f n (h + m) (s + 1) dT (lft (.inl e : Sum (Nat × Nat) hSm)) = some e := hoG_some
      rw [this] at w
      exact w
    · have : hoG f n (h + m) (s + 1) dT (lft (.inr S : Sum (Nat × Nat) hSm)) = lft (smHouse (vl f n) (dg f n) S s) := hoG_none (hasN_tld hI.2.1) q2 q3 q4 q5
      rw [this] at w
      show wSt f n (lft (smTell (kd f n) (vl f n) (dg f n) S s (s + 7))) σ'
      rw [est]; exact w
  · intro S S' hX hS
    subst hX
    obtain ⟨i1, i2, i3, i4, i5⟩ := hI
    have ok := smTell_ok i4 (fun _ => by rw [i2.1]; exact hh) (fun q => absurd (k0.symm.trans q) (by decide)) (fun q => absurd (k0.symm.trans q) (by decide)) hS
    rw [est] at hS
    unfold smHouse at hS
    have hsH := i2.1
    split at hS
    · cases hS
    · rename_i ct
      split at hS
      · cases hS
      split at hS
      · cases hS
      split at hS
      · cases hS
      split at hS
      · cases hS
      obtain rfl := Sum.inr.inj hS
      refine ⟨nmS_house i2 (by simpa using ct) (by rw [← hsH]; rfl) i2.2.1 (by rw [← hsH]; rfl) rfl, i3, ok.1, ?_⟩
      obtain ⟨t1, t2, t3, t4, t5, t6⟩ := i5
      refine ⟨fun i hi => ?_, fun i h1 h2 => ?_, fun j hj => ?_, ?_, ?_, ?_⟩
      · have hi2 : i < sH S + 1 := hi
        show _ = nI (upN (sFi S) (sH S) (vl f n (s + 2)) i) ∧ _ = nI (upN (sCo S) (sH S) (vl f n (s + 3)) i) ∧ _ = nI (upN (sHu S) (sH S) (vl f n (s + 4)) i) ∧ _ = nI (upN (sFe S) (sH S) (vl f n (s + 5)) i) ∧ _ = nI (upN (sHe S) (sH S) 0 i)
        rw [o1 79 (by decide)]
        by_cases e : i = sH S
        · subst e
          rw [upN_eq, upN_eq, upN_eq, upN_eq, upN_eq, hsH]
          exact ⟨v1, v2, v3, v4, t2 h (by omega) (by omega)⟩
        · rw [upN_ne e, upN_ne e, upN_ne e, upN_ne e, upN_ne e, f75 _ (by omega), f76 _ (by omega), f77 _ (by omega), f78 _ (by omega)]
          exact t1 i (by omega)
      · rw [o1 79 (by decide)]
        exact t2 i (by have : sH S + 1 ≤ i := h1; omega) h2
      · rw [o1 82 (by decide)]; exact t3 j hj
      · rw [o1 83 (by decide)]; exact t4
      · rw [o1 84 (by decide)]; exact t5
      · rw [o1 85 (by decide)]; exact t6
theorem st_hears (hI : smI f n L h r m s dT ix X σ) (hN : nmM h m dT ix σ τ) (k0 : kd f n s = 1) (hr : r < 16) (hp : tlP (kd f n) s (s + 4) none) (hx : hrX (kd f n) (s + 1) = .inr (s + 4, ())) (P : pTr f n L (h + m) r (s + 1) dT ix (lft X) r0 σ τ v1 r1 σ' τ') : ∃ dT' ix', nmM h m dT' ix' σ' τ' ∧ smI f n L h (r + 1) m (s + 4) dT' ix' (stX (kd f n) (vl f n) (dg f n) X s (s + 4)) σ' := by
  obtain ⟨-, -, rfl, o1, k1, f80, -, -, fin⟩ := P
  obtain ⟨g1, g2, w⟩ := fin _ _ hx
  have est : ∀ S, smTell (kd f n) (vl f n) (dg f n) S s (s + 4) = smHears (dg f n) S s := fun S => by unfold smTell; rw [if_neg (by omega), if_pos k0]
  refine ⟨dT, ix, nmM_of hN (k1 20 (by decide)) (o1 73 (by decide)), smI_in hI hp ?_ ?_⟩
  · rcases X with e | S
    · have : heG (btI (σ 79) L) (hsN dT ix (dg f n (s + 1)) (h + m) 0) (hsN dT ix (dg f n (s + 1 + 1)) (h + m) 0) (s + 1) (lft (.inl e : Sum (Nat × Nat) hSm)) = some e := heG_some
      rw [this] at w
      exact w
    · obtain ⟨i1, i2, i3, i4, i5⟩ := hI
      have hb : ∀ i j, i < sH S → j < sH S → btI (σ 79) L i j = (sHe S i).testBit j := by
        intro i j hi hj
        have h7 := i4.1
        have hlt := (i4.2.2.2.1 i hi).2.2.2.2
        have hp7 : 2 ^ sH S ≤ 2 ^ 7 := Nat.pow_le_pow_right (by decide) h7
        have := bit_1 (m := sHe S i) (i := j) (by omega) (by omega)
        unfold btI
        rw [(i5.1 i hi).2.2.2.2]
        exact Bool.eq_iff_iff.mpr (decide_eq_true_iff.trans this)
      have : heG (btI (σ 79) L) (hsN dT ix (dg f n (s + 1)) (h + m) 0) (hsN dT ix (dg f n (s + 1 + 1)) (h + m) 0) (s + 1) (lft (.inr S : Sum (Nat × Nat) hSm)) = lft (smHears (dg f n) S s) := by
        rw [hsN_fnd i2, hsN_fnd i2]
        exact heG_none hb
      rw [this] at w
      show wSt f n (lft (smTell (kd f n) (vl f n) (dg f n) S s (s + 4))) σ'
      rw [est]; exact w
  · intro S S' hX hS
    subst hX
    obtain ⟨i1, i2, i3, i4, i5⟩ := hI
    have ok := smTell_ok i4 (fun q => absurd (k0.symm.trans q) (by decide)) (fun _ => by rw [i3]; exact hr) (fun q => absurd (k0.symm.trans q) (by decide)) hS
    rw [est] at hS
    rw [hsN_fnd i2, hsN_fnd i2] at g2
    unfold smHears at hS
    split at hS
    · cases hS
    rename_i a ha
    split at hS
    · cases hS
    rename_i b hb
    split at hS
    · cases hS
    obtain rfl := Sum.inr.inj hS
    rw [ha, show s + 1 + 1 = s + 2 from rfl, hb] at g2
    have la := (fnd_lt _ a ha).1
    have lb := (fnd_lt _ b hb).1
    refine ⟨i2, by rw [← i3]; rfl, ok.1, ?_⟩
    obtain ⟨t1, t2, t3, t4, t5, t6⟩ := i5
    have h7 := i4.1
    have e79 : σ' 79 = upd (σ 79) (7 * L + a) (nI (sHe S a ||| 2 ^ b)) := by
      rw [g2]
      show upd (σ 79) (7 * L + a) (σ 79 (7 * L + a) ||| (1 : Int32) <<< (nI b &&& 31)) = _
      have hlt := (i4.2.2.2.1 a la).2.2.2.2
      have hp7 : 2 ^ sH S ≤ 2 ^ 7 := Nat.pow_le_pow_right (by decide) h7
      have hpb : 2 ^ b ≤ 2 ^ 7 := Nat.pow_le_pow_right (by decide) (by omega)
      rw [(t1 a la).2.2.2.2, b_shl (by omega), b_or (by omega) (by omega)]
    refine ⟨fun i hi => ?_, fun i h1 h2 => ?_, fun j hj => ?_, ?_, ?_, ?_⟩
    · have hi2 : i < sH S := hi
      obtain ⟨p1, p2, p3, p4, p5⟩ := t1 i hi2
      rw [o1 75 (by decide), o1 76 (by decide), o1 77 (by decide), o1 78 (by decide), e79]
      refine ⟨p1, p2, p3, p4, ?_⟩
      show _ = nI (upN (sHe S) a (sHe S a ||| 2 ^ b) i)
      by_cases e : i = a
      · subst e; rw [pk_us, upN_eq]
      · rw [pk_un (by omega), upN_ne e]; exact p5
    · have h1' : sH S ≤ i := h1
      rw [e79, pk_un (by omega)]
      exact t2 i h1 h2
    · rw [o1 82 (by decide)]; exact t3 j hj
    · rw [o1 83 (by decide)]; exact t4
    · rw [o1 84 (by decide)]; exact t5
    · rw [o1 85 (by decide)]; exact t6
theorem st_motion {e : Nat} (hI : smI f n L h r m s dT ix X σ) (hN : nmM h m dT ix σ τ) (k0 : kd f n s = 2) (hm : m < 5) (hp : tlP (kd f n) s e none) (hx : moX (kd f n) (s + 1) = .inr (e, ())) (P : pMo f n L h m (s + 1) dT ix (lft X) r0 σ τ v1 r1 σ' τ') : ∃ dT' ix', nmM h (m + 1) dT' ix' σ' τ' ∧ smI f n L h r (m + 1) e dT' ix' (stX (kd f n) (vl f n) (dg f n) X s e) σ' := by
  obtain ⟨-, -, o1, o2, k1, ⟨f81, f82⟩, -, fin⟩ := P
  obtain ⟨⟨g1, g2, g3, g4⟩, v, w⟩ := fin _ _ hx
  obtain ⟨-, q1, q2⟩ := hp.2.2.2.2.1 k0
  have h7 := hN.2.1
  have est : ∀ S, smTell (kd f n) (vl f n) (dg f n) S s e = smMotion (dg f n) S s e := fun S => by unfold smTell; rw [if_neg (by omega), if_neg (by omega), if_pos k0]
  have key : ∀ S, X = .inr S → tld (dg f n) S (dg f n (s + 1)) = false → match supX (dg f n) S (e - 1 - (s + 2)) (s + 2) 0 with
      | .inl e' => (moS (fun j => hsN dT ix (dg f n j) (h + m) 0) (e - 1 - (s + 1 + 1)) (s + 1 + 1) 0 (if hasN dT (dg f n (s + 1)) (h + m) = true then orE (lft X) (3, s + 1) else lft X)).2 = some e'
      | .inr m' => moS (fun j => hsN dT ix (dg f n j) (h + m) 0) (e - 1 - (s + 1 + 1)) (s + 1 + 1) 0 (if hasN dT (dg f n (s + 1)) (h + m) = true then orE (lft X) (3, s + 1) else lft X) = (nI m', none) := by
    intro S hX ct
    subst hX
    rw [hasN_tld hI.2.1, ct]
    exact moS_sup (D := dg f n) (S := S) (hs := fun j => hsN dT ix (dg f n j) (h + m) 0) hI.2.2.2.1.1 (fun j => hsN_fnd hI.2.1) (e - 1 - (s + 2)) (s + 2) 0 (by decide)
  refine ⟨upN dT (h + m) (dg f n (s + 1)), ixS ix (h + m) none, nmM_add hN (by omega) (by omega) (by omega) (by omega) (dg_lt q1) (fun i hi => by cases hi) g2 g3 g4, smI_in hI hp ?_ ?_⟩
  · rcases X with x | S
    · have e1 : (if hasN dT (dg f n (s + 1)) (h + m) = true then orE (lft (.inl x : Sum (Nat × Nat) hSm)) (3, s + 1) else lft (.inl x : Sum (Nat × Nat) hSm)) = some x := by
        split <;> rfl
      rw [e1, moS_some] at w
      exact w
    · show wSt f n (lft (smTell (kd f n) (vl f n) (dg f n) S s e)) σ'
      rw [est]
      unfold smMotion
      by_cases ct : tld (dg f n) S (dg f n (s + 1)) = true
      · rw [if_pos ct]
        rw [hasN_tld hI.2.1, ct, if_pos rfl] at w
        rw [show orE (lft (.inr S : Sum (Nat × Nat) hSm)) (3, s + 1) = some (3, s + 1) from rfl, moS_some] at w
        exact w
      · rw [if_neg ct]
        have key' := key S rfl (by simpa using ct)
        rcases hs : supX (dg f n) S (e - 1 - (s + 2)) (s + 2) 0 with x | m'
        · rw [hs] at key'
          dsimp only at key'
          rw [key'] at w
          exact w
        · rw [hs] at key'
          dsimp only at key'
          rw [key'] at w
          exact w
  · intro S S' hX hS
    have key' := key S hX
    subst hX
    obtain ⟨i1, i2, i3, i4, i5⟩ := hI
    have hsM := i2.2.1
    have ok := smTell_ok i4 (fun q => absurd (k0.symm.trans q) (by decide)) (fun q => absurd (k0.symm.trans q) (by decide)) (fun _ => by rw [hsM]; exact hm) hS
    rw [est] at hS
    unfold smMotion at hS
    split at hS
    · cases hS
    rename_i ct
    have key2 := key' (by simpa using ct)
    split at hS
    · cases hS
    rename_i m' hsu
    rw [hsu] at key2
    dsimp only at key2
    rw [key2] at v
    obtain rfl := Sum.inr.inj hS
    refine ⟨nmS_motion i2 i2.1 (by rw [← hsM]; rfl) rfl (by rw [← hsM]; rfl), i3, ok.1, ?_⟩
    obtain ⟨t1, t2, t3, t4, t5, t6⟩ := i5
    refine ⟨fun i hi => ?_, fun i h1 h2 => ?_, fun j hj => ?_, ?_, ?_, ?_⟩
    · rw [o1 75 (by decide), o1 76 (by decide), o1 77 (by decide), o1 78 (by decide), o1 79 (by decide)]
      exact t1 i hi
    · rw [o1 79 (by decide)]
      exact t2 i h1 h2
    · have hj2 : j < sM S + 1 := hj
      show _ = nI (upN (sSu S) (sM S) m' j)
      by_cases e : j = sM S
      · subst e; rw [upN_eq, hsM]; exact v
      · rw [upN_ne e, f82 _ (by omega)]; exact t3 j (by omega)
    · rw [o1 83 (by decide)]; exact t4
    · rw [o1 84 (by decide)]; exact t5
    · rw [o1 85 (by decide)]; exact t6
theorem st_int8 {v : Int32} (hI : smI f n L h r m s dT ix X σ) (hN : nmM h m dT ix σ τ) (k0 : kd f n s = 8) (hp : tlP (kd f n) s (s + 3) none) (hx : pass s = .inr (s + 1, ())) (P : pTi f n 999 s (lft X) r0 σ τ (some (.int v)) r1 σ' τ') : ∃ dT' ix', nmM h m dT' ix' (va_up σ' 83 (upd (σ' 83) L v)) τ' ∧ smI f n L h r m (s + 3) dT' ix' (stX (kd f n) (vl f n) (dg f n) X s (s + 3)) (va_up σ' 83 (upd (σ' 83) L v)) := by
  obtain ⟨v0, hv0, -, rfl, o1, k1, -, w, fin⟩ := P
  cases hv0
  obtain ⟨-, q1⟩ := hp.2.2.2.2.2.1 (by omega)
  have ev := fin _ _ hx q1
  have e64 : ∀ j, va_up σ' 83 (upd (σ' 83) L v) 64 j = σ' 64 j := fun j => by rw [hva_ne (by decide)]
  have est : ∀ S, smTell (kd f n) (vl f n) (dg f n) S s (s + 3) = (if 999 < vl f n (s + 1) then .inl (5, s + 1) else .inr (S.1, S.2.1, S.2.2.1, S.2.2.2.1, (vl f n (s + 1), sOd S, sSe S))) := fun S => by unfold smTell; rw [k0]; rfl
  have ebg : bG (kd f n) (vl f n) 999 (pass s) (lft X) = if 999 < vl f n (s + 1) then orE (lft X) (5, s + 1) else lft X := by
    rw [hx]
    unfold bG
    dsimp only
    by_cases c : 999 < vl f n (s + 1)
    · rw [if_pos ⟨q1, c⟩, if_pos c]
    · rw [if_neg (fun q => c q.2), if_neg c]
  rw [ebg] at w
  refine ⟨dT, ix, nmM_of hN ((e64 20).trans (k1 20 (by decide))) (by rw [hva_ne (by decide)]; exact o1 73 (by decide)), smI_in hI hp ?_ ?_⟩
  · refine wSt_of ?_ (e64 15) (e64 16)
    rcases X with x | S
    · rw [show (if 999 < vl f n (s + 1) then orE (lft (.inl x : Sum (Nat × Nat) hSm)) (5, s + 1) else lft (.inl x : Sum (Nat × Nat) hSm)) = some x by split <;> rfl] at w
      exact w
    · show wSt f n (lft (smTell (kd f n) (vl f n) (dg f n) S s (s + 3))) σ'
      rw [est]
      by_cases c : 999 < vl f n (s + 1)
      · rw [if_pos c] at w ⊢; exact w
      · rw [if_neg c] at w ⊢; exact w
  · intro S S' hX hS
    subst hX
    obtain ⟨i1, i2, i3, i4, i5⟩ := hI
    have ok := smTell_ok i4 (fun q => absurd (k0.symm.trans q) (by decide)) (fun q => absurd (k0.symm.trans q) (by decide)) (fun q => absurd (k0.symm.trans q) (by decide)) hS
    rw [est] at hS
    split at hS
    · cases hS
    obtain rfl := Sum.inr.inj hS
    refine ⟨i2, i3, ok.1, ?_⟩
    obtain ⟨t1, t2, t3, t4, t5, t6⟩ := i5
    have o2 : ∀ c, c ∉ [64, 83] → va_up σ' 83 (upd (σ' 83) L v) c = σ c := off_up (off_wk o1 (by decide)) (by decide)
    refine ⟨fun i hi => ?_, fun i h1 h2 => ?_, fun j hj => ?_, ?_, ?_, ?_⟩
    · rw [o2 75 (by decide), o2 76 (by decide), o2 77 (by decide), o2 78 (by decide), o2 79 (by decide)]
      exact t1 i hi
    · rw [o2 79 (by decide)]
      exact t2 i h1 h2
    · rw [o2 82 (by decide)]; exact t3 j hj
    · rw [hup_eq, pk_us]; exact ev
    · rw [o2 84 (by decide)]; exact t5
    · rw [o2 85 (by decide)]; exact t6
theorem st_int9 {v : Int32} (hI : smI f n L h r m s dT ix X σ) (hN : nmM h m dT ix σ τ) (k0 : kd f n s = 9) (hp : tlP (kd f n) s (s + 3) none) (hx : pass s = .inr (s + 1, ())) (P : pTi f n 100 s (lft X) r0 σ τ (some (.int v)) r1 σ' τ') : ∃ dT' ix', nmM h m dT' ix' (va_up σ' 84 (upd (σ' 84) L v)) τ' ∧ smI f n L h r m (s + 3) dT' ix' (stX (kd f n) (vl f n) (dg f n) X s (s + 3)) (va_up σ' 84 (upd (σ' 84) L v)) := by
  obtain ⟨v0, hv0, -, rfl, o1, k1, -, w, fin⟩ := P
  cases hv0
  obtain ⟨-, q1⟩ := hp.2.2.2.2.2.1 (by omega)
  have ev := fin _ _ hx q1
  have e64 : ∀ j, va_up σ' 84 (upd (σ' 84) L v) 64 j = σ' 64 j := fun j => by rw [hva_ne (by decide)]
  have est : ∀ S, smTell (kd f n) (vl f n) (dg f n) S s (s + 3) = (if 100 < vl f n (s + 1) then .inl (5, s + 1) else .inr (S.1, S.2.1, S.2.2.1, S.2.2.2.1, (sSa S, vl f n (s + 1), sSe S))) := fun S => by unfold smTell; rw [k0]; rfl
  have ebg : bG (kd f n) (vl f n) 100 (pass s) (lft X) = if 100 < vl f n (s + 1) then orE (lft X) (5, s + 1) else lft X := by
    rw [hx]
    unfold bG
    dsimp only
    by_cases c : 100 < vl f n (s + 1)
    · rw [if_pos ⟨q1, c⟩, if_pos c]
    · rw [if_neg (fun q => c q.2), if_neg c]
  rw [ebg] at w
  refine ⟨dT, ix, nmM_of hN ((e64 20).trans (k1 20 (by decide))) (by rw [hva_ne (by decide)]; exact o1 73 (by decide)), smI_in hI hp ?_ ?_⟩
  · refine wSt_of ?_ (e64 15) (e64 16)
    rcases X with x | S
    · rw [show (if 100 < vl f n (s + 1) then orE (lft (.inl x : Sum (Nat × Nat) hSm)) (5, s + 1) else lft (.inl x : Sum (Nat × Nat) hSm)) = some x by split <;> rfl] at w
      exact w
    · show wSt f n (lft (smTell (kd f n) (vl f n) (dg f n) S s (s + 3))) σ'
      rw [est]
      by_cases c : 100 < vl f n (s + 1)
      · rw [if_pos c] at w ⊢; exact w
      · rw [if_neg c] at w ⊢; exact w
  · intro S S' hX hS
    subst hX
    obtain ⟨i1, i2, i3, i4, i5⟩ := hI
    have ok := smTell_ok i4 (fun q => absurd (k0.symm.trans q) (by decide)) (fun q => absurd (k0.symm.trans q) (by decide)) (fun q => absurd (k0.symm.trans q) (by decide)) hS
    rw [est] at hS
    split at hS
    · cases hS
    obtain rfl := Sum.inr.inj hS
    refine ⟨i2, i3, ok.1, ?_⟩
    obtain ⟨t1, t2, t3, t4, t5, t6⟩ := i5
    have o2 : ∀ c, c ∉ [64, 84] → va_up σ' 84 (upd (σ' 84) L v) c = σ c := off_up (off_wk o1 (by decide)) (by decide)
    refine ⟨fun i hi => ?_, fun i h1 h2 => ?_, fun j hj => ?_, ?_, ?_, ?_⟩
    · rw [o2 75 (by decide), o2 76 (by decide), o2 77 (by decide), o2 78 (by decide), o2 79 (by decide)]
      exact t1 i hi
    · rw [o2 79 (by decide)]
      exact t2 i h1 h2
    · rw [o2 82 (by decide)]; exact t3 j hj
    · rw [o2 83 (by decide)]; exact t4
    · rw [hup_eq, pk_us]; exact ev
    · rw [o2 85 (by decide)]; exact t6
theorem st_int10 {v : Int32} (hI : smI f n L h r m s dT ix X σ) (hN : nmM h m dT ix σ τ) (k0 : kd f n s = 10) (hp : tlP (kd f n) s (s + 3) none) (hx : pass s = .inr (s + 1, ())) (P : pTi f n 9999 s (lft X) r0 σ τ (some (.int v)) r1 σ' τ') : ∃ dT' ix', nmM h m dT' ix' (va_up σ' 85 (upd (σ' 85) L v)) τ' ∧ smI f n L h r m (s + 3) dT' ix' (stX (kd f n) (vl f n) (dg f n) X s (s + 3)) (va_up σ' 85 (upd (σ' 85) L v)) := by
  obtain ⟨v0, hv0, -, rfl, o1, k1, -, w, fin⟩ := P
  cases hv0
  obtain ⟨-, q1⟩ := hp.2.2.2.2.2.1 (by omega)
  have ev := fin _ _ hx q1
  have e64 : ∀ j, va_up σ' 85 (upd (σ' 85) L v) 64 j = σ' 64 j := fun j => by rw [hva_ne (by decide)]
  have est : ∀ S, smTell (kd f n) (vl f n) (dg f n) S s (s + 3) = (if 9999 < vl f n (s + 1) then .inl (5, s + 1) else .inr (S.1, S.2.1, S.2.2.1, S.2.2.2.1, (sSa S, sOd S, vl f n (s + 1)))) := fun S => by unfold smTell; rw [k0]; rfl
  have ebg : bG (kd f n) (vl f n) 9999 (pass s) (lft X) = if 9999 < vl f n (s + 1) then orE (lft X) (5, s + 1) else lft X := by
    rw [hx]
    unfold bG
    dsimp only
    by_cases c : 9999 < vl f n (s + 1)
    · rw [if_pos ⟨q1, c⟩, if_pos c]
    · rw [if_neg (fun q => c q.2), if_neg c]
  rw [ebg] at w
  refine ⟨dT, ix, nmM_of hN ((e64 20).trans (k1 20 (by decide))) (by rw [hva_ne (by decide)]; exact o1 73 (by decide)), smI_in hI hp ?_ ?_⟩
  · refine wSt_of ?_ (e64 15) (e64 16)
    rcases X with x | S
    · rw [show (if 9999 < vl f n (s + 1) then orE (lft (.inl x : Sum (Nat × Nat) hSm)) (5, s + 1) else lft (.inl x : Sum (Nat × Nat) hSm)) = some x by split <;> rfl] at w
      exact w
    · show wSt f n (lft (smTell (kd f n) (vl f n) (dg f n) S s (s + 3))) σ'
      rw [est]
      by_cases c : 9999 < vl f n (s + 1)
      · rw [if_pos c] at w ⊢; exact w
      · rw [if_neg c] at w ⊢; exact w
  · intro S S' hX hS
    subst hX
    obtain ⟨i1, i2, i3, i4, i5⟩ := hI
    have ok := smTell_ok i4 (fun q => absurd (k0.symm.trans q) (by decide)) (fun q => absurd (k0.symm.trans q) (by decide)) (fun q => absurd (k0.symm.trans q) (by decide)) hS
    rw [est] at hS
    split at hS
    · cases hS
    obtain rfl := Sum.inr.inj hS
    refine ⟨i2, i3, ok.1, ?_⟩
    obtain ⟨t1, t2, t3, t4, t5, t6⟩ := i5
    have o2 : ∀ c, c ∉ [64, 85] → va_up σ' 85 (upd (σ' 85) L v) c = σ c := off_up (off_wk o1 (by decide)) (by decide)
    refine ⟨fun i hi => ?_, fun i h1 h2 => ?_, fun j hj => ?_, ?_, ?_, ?_⟩
    · rw [o2 75 (by decide), o2 76 (by decide), o2 77 (by decide), o2 78 (by decide), o2 79 (by decide)]
      exact t1 i hi
    · rw [o2 79 (by decide)]
      exact t2 i h1 h2
    · rw [o2 82 (by decide)]; exact t3 j hj
    · rw [o2 83 (by decide)]; exact t4
    · rw [o2 84 (by decide)]; exact t5
    · rw [hup_eq, pk_us]; exact ev
theorem st_law {e k : Nat} {l : hLw} (hI : smI f n L h r m s dT ix X σ) (hN : nmM h m dT ix σ τ) (k0 : 3 ≤ kd f n s ∧ kd f n s ≤ 7) (hp : tlP (kd f n) s e (some (k, l))) (o1 : ∀ c, c ∉ 64 :: 86 :: 87 :: 88 :: 89 :: 90 :: 91 :: 92 :: 93 :: 94 :: [95] → σ' c = σ c) (k1 : kM fTm σ σ') : nmM h m dT ix σ' τ ∧ smI f n L h r m e dT ix (stX (kd f n) (vl f n) (dg f n) X s e) σ' := by
  have est : ∀ S, smTell (kd f n) (vl f n) (dg f n) S s e = .inr S := fun S => by unfold smTell; rw [if_neg (by omega), if_neg (by omega), if_neg (by omega), if_neg (by omega), if_neg (by omega), if_neg (by omega)]
  refine ⟨nmM_of hN (k1 20 (by decide)) (o1 73 (by decide)), smI_in hI hp ?_ ?_⟩
  · refine wSt_of (g := lft (stX (kd f n) (vl f n) (dg f n) X s e)) ?_ (k1 15 (by decide)) (k1 16 (by decide))
    rcases X with x | S
    · exact hI.1
    · show wSt f n (lft (smTell (kd f n) (vl f n) (dg f n) S s e)) σ
      rw [est]; exact hI.1
  · intro S S' hX hS
    subst hX
    rw [est] at hS
    obtain rfl := Sum.inr.inj hS
    obtain ⟨i1, i2, i3, i4, i5⟩ := hI
    exact ⟨i2, i3, i4, mTab_of i5 o1 (by decide)⟩
end S9j

