section S65
variable {G : hGl} {M : hMe} {ck cn : Nat} {Sh : hSh} {pc : Nat} {lv : List (Option Value)} {st : List Value} {r : hR} {σ : hS} {τ : hT}
theorem hv_ldcK0 (hd : decode (hmB M) pc = .ok (.ldc 91, 2)) (hy : (hmY M).cls = RX9) (h : hV G M ck cn Sh (pc + 2) lv (.ref (hgK G 0) :: st) r σ τ) : hV G M ck cn Sh pc lv st r σ τ :=
  fun p e s m args below meth c C H locs ls hH hS hl => va_ldcS C.1 C.2.1 (own := RX9) (by rw [← hy]; exact C.2.2.2.2.1) C.2.2.2.2.2.2.2.1.2.2.2.1 hd (h p e s m args below meth c C H locs ls hH hS hl)
theorem hv_ldcK1 (hd : decode (hmB M) pc = .ok (.ldc 76, 2)) (hy : (hmY M).cls = RX9) (h : hV G M ck cn Sh (pc + 2) lv (.ref (hgK G 1) :: st) r σ τ) : hV G M ck cn Sh pc lv st r σ τ :=
  fun p e s m args below meth c C H locs ls hH hS hl => va_ldcS C.1 C.2.1 (own := RX9) (by rw [← hy]; exact C.2.2.2.2.1) C.2.2.2.2.2.2.2.1.2.2.2.2.1 hd (h p e s m args below meth c C H locs ls hH hS hl)
theorem fs_38 : Cond.fieldLink RJ0 38 "java/lang/String" "COMPACT_STRINGS" "Z" ∈ hwd := hmem 618 (by decide +kernel) rfl
theorem hv_gets38 (hd : decode (hmB M) pc = .ok (.getstatic 38, 3)) (hy : (hmY M).cls = RJ0) (h : hV G M ck cn Sh (pc + 3) lv (.int 1 :: st) r σ τ) : hV G M ck cn Sh pc lv st r σ τ :=
  fun p e s m args below meth c C H locs ls hH hS hl => va_gets C.1 C.2.1 (own := RJ0) C.2.2.2.2.2.2.2.1.2.2.2.2.2.1 hS (by rw [← hy]; exact C.2.2.2.2.1) (C.2.2.2.2.2.1 _ fs_38) (fun _ x => x) hd (h p e s m args below meth c C H locs ls hH hS hl)
theorem fs_1053 : Cond.fieldLink RJ0 1053 "jdk/internal/util/Preconditions" "SIOOBE_FORMATTER" "Ljava/util/function/BiFunction;" ∈ hwd := hmem 626 (by decide +kernel) rfl
theorem hv_gets1053 (hd : decode (hmB M) pc = .ok (.getstatic 1053, 3)) (hy : (hmY M).cls = RJ0) (h0 : hV G M ck cn Sh (pc + 3) lv (.null :: st) r σ τ) (h1 : ∀ t, hV G M ck cn Sh (pc + 3) lv (.ref t :: st) r σ τ) : hV G M ck cn Sh pc lv st r σ τ := by
  intro p e s m args below meth c C H locs ls hH hS hl
  rcases C.2.2.2.2.2.2.2.1.2.2.2.2.2.2 with hz | ⟨t, hz⟩
  · exact va_gets C.1 C.2.1 (own := RJ0) hz hS (by rw [← hy]; exact C.2.2.2.2.1) (C.2.2.2.2.2.1 _ fs_1053) (fun _ x => x) hd (h0 p e s m args below meth c C H locs ls hH hS hl)
  · exact va_gets C.1 C.2.1 (own := RJ0) hz hS (by rw [← hy]; exact C.2.2.2.2.1) (C.2.2.2.2.2.1 _ fs_1053) (fun _ x => x) hd (h1 t p e s m args below meth c C H locs ls hH hS hl)
theorem fs_15 : Cond.fieldLink RJ0 15 "java/lang/String" "coder" "B" ∈ hwd := hmem 1923 (by decide +kernel) rfl
theorem fs_9 : Cond.fieldLink RJ0 9 "java/lang/String" "value" "[B" ∈ hwd := hmem 1924 (by decide +kernel) rfl
theorem hv_scoder {i : Nat} (hi : i < 2) (hd : decode (hmB M) pc = .ok (.getfield 15, 3)) (hy : (hmY M).cls = RJ0) (h : hV G M ck cn Sh (pc + 3) lv (.int 0 :: st) r σ τ) : hV G M ck cn Sh pc lv (.ref (hgK G i) :: st) r σ τ :=
  fun p e s m args below meth c C H locs ls hH hS hl => vk_getf C.1 C.2.1 (own := RJ0) (C.2.2.2.2.2.2.2.1.2.2.1.1 i hi).2.1 hS (by rw [← hy]; exact C.2.2.2.2.1) (C.2.2.2.2.2.1 _ fs_15) (fun _ x => x) hd (h p e s m args below meth c C H locs ls hH hS hl)
theorem hv_svalue {i : Nat} (hi : i < 2) (hd : decode (hmB M) pc = .ok (.getfield 9, 3)) (hy : (hmY M).cls = RJ0) (h : hV G M ck cn Sh (pc + 3) lv (.ref (hgV G i) :: st) r σ τ) : hV G M ck cn Sh pc lv (.ref (hgK G i) :: st) r σ τ :=
  fun p e s m args below meth c C H locs ls hH hS hl => vk_getf C.1 C.2.1 (own := RJ0) (C.2.2.2.2.2.2.2.1.2.2.1.1 i hi).2.2.1 hS (by rw [← hy]; exact C.2.2.2.2.1) (C.2.2.2.2.2.1 _ fs_9) (fun _ x => x) hd (h p e s m args below meth c C H locs ls hH hS hl)
theorem hv_sbald {i j : Nat} (hi : i < 2) (hj : j < [138, 9].getD i 0) (hd : decode (hmB M) pc = .ok (.baload, 1)) (h : hV G M ck cn Sh (pc + 1) lv (.int ((hby.getD i []).getD j 0) :: st) r σ τ) : hV G M ck cn Sh pc lv (.int (nI j) :: .ref (hgV G i) :: st) r σ τ := by
  intro p e s m args below meth c C H locs ls hH hS hl
  have hb : [138, 9].getD i 0 < 2 ^ 31 := by
    rcases (show i = 0 ∨ i = 1 by omega) with rfl | rfl <;> decide
  exact va_tb C.1 C.2.1 (C.2.2.2.2.2.2.2.1.2.2.1.1 i hi).2.2.2 hS (vp_in_nI hj hb) (by rw [nI_clamp (by omega)]) hd (h p e s m args below meth c C H locs ls hH hS hl)
theorem hv_salen {i : Nat} (hi : i < 2) (hd : decode (hmB M) pc = .ok (.arraylength, 1)) (h : hV G M ck cn Sh (pc + 1) lv (.int (nI ([138, 9].getD i 0)) :: st) r σ τ) : hV G M ck cn Sh pc lv (.ref (hgV G i) :: st) r σ τ :=
  fun p e s m args below meth c C H locs ls hH hS hl => va_tlen C.1 C.2.1 (C.2.2.2.2.2.2.2.1.2.2.1.1 i hi).2.2.2 hS rfl hd (h p e s m args below meth c C H locs ls hH hS hl)
theorem hv_nret {v : Int32} {ty : FieldType} (hd : decode (hmB M) pc = .ok (.ireturn, 1)) (hr : hmT M = some ty) (hn : narrow ty (.int v) = .int v) (hq : hmQ M (some (.int v)) r σ τ) : hV G M (hmc M) (hms M) (hmE M) pc lv [.int v] r σ τ :=
  fun p e s m args below meth c C H locs ls hH hS hl => W.zret C.1 C.2.1 (C.2.2.1.trans hr) hn (fun t ht hw => ⟨⟨_, r, σ, τ, rfl, hq, by rw [ht]; exact hH⟩, hS.F ht⟩) (fun q hq => hS.2.2 q hq) hd C.2.2.2.2.2.2.1
theorem hv_callVS (M' : hMe) {idx i n : Nat} (As : List Value) (hd : decode (hmB M) pc = .ok (.invokevirtual idx, 3)) (hL : Cond.methodLink (hmY M).cls idx (hmY M') ∈ hwd) (hm : hMv (hmY M') (hmB M') (hmN M') (hmT M') n) (hn : As.length = n) (hi : i < 2) (hq : (hmY M').cls = "java/lang/String") (hZ : hmZ M' = none) (hf : hfit M M' ck cn = true) (hst : Nat.ble (st.map fun v => v.category).sum 8 = true)
    (hC : hCal G M' (.ref (hgK G i) :: As) Sh r σ τ) (kk : ∀ (v : Option Value) (r' : hR) (σ' : hS) (τ' : hT), hmQ M' v r' σ' τ' → hV G M (ck + hmc M') (cn + hms M') (hmE M') (pc + 3) lv (v.toList ++ st) r' σ' τ') : hV G M ck cn Sh pc lv (As.reverse ++ .ref (hgK G i) :: st) r σ τ := by
  intro p e s m args below meth c C H locs ls hH hS hl
  obtain ⟨f1, f2, f3, f4, f5, f6⟩ := hfit_spec hf
  obtain ⟨⟨m1, m2, m3, m4⟩, md⟩ := hm
  have hts := C.2.2.2.2.2.1
  have hb : CallB (hmR M) s args (hmY M).cls idx (hmY M') (hmB M') (hmN M') (hmT M') (Cond.code (hmY M') (hmB M') (hmN M') (hmT M') :: hwd) (hmR M') (hmc M') (hms M') n :=
    callB_of n hts (hgood m4) rfl f1 f2 (hts _ m3) (hts _ hL) md ⟨f3, f4⟩
  refine hgoes C hS hl (va_runV (C := (hmY M').cls) ⟨C.1, C.2.1, C.2.2.2.1, C.2.2.2.2.1, hts⟩ hC ⟨hb, hts _ m1, hts _ m2⟩ ⟨hblind, ?_, fun U hU hW => ⟨rfl, hIn_at C.2.2.2.2.2.2.2.1 hS hU hW, (fun n h => absurd (hZ.symm.trans h) (by simp)), by rw [hU]; exact hH⟩⟩ rfl hn hl.1 rfl (lv_room (Nat.le_of_ble_eq_true hst)) hd ⟨f5, f6⟩) kk
  rw [hq]
  exact vk_recv C.2.2.2.2.2.2.2.1.2.2.1 hi hS
theorem hv_cw0 {M' : hMe} {idx i : Nat} (hi : i < 2) (hC : hCal G M' (.ref (hgK G i) :: []) Sh r σ τ) (hd : decode (hmB M) pc = .ok (.invokevirtual idx, 3)) (hL : Cond.methodLink (hmY M).cls idx (hmY M') ∈ hwd) (hm : hMv (hmY M') (hmB M') (hmN M') (hmT M') 0) (hq : (hmY M').cls = "java/lang/String") (hZ : hmZ M' = none) (hf : hfit M M' ck cn = true) (hst : Nat.ble (st.map fun v => v.category).sum 8 = true) (kk : ∀ (v : Option Value) (r' : hR) (σ' : hS) (τ' : hT), hmQ M' v r' σ' τ' → hV G M (ck + hmc M') (cn + hms M') (hmE M') (pc + 3) lv (hpush v st) r' σ' τ') : hV G M ck cn Sh pc lv (.ref (hgK G i) :: st) r σ τ :=
  hv_callVS M' [] hd hL hm rfl hi hq hZ hf hst hC (fun v r' σ' τ' h => hpush_eq v st ▸ kk v r' σ' τ' h)
theorem hv_cw1 {M' : hMe} {idx i : Nat} {a0 : Value} (hi : i < 2) (hC : hCal G M' (.ref (hgK G i) :: [a0]) Sh r σ τ) (hd : decode (hmB M) pc = .ok (.invokevirtual idx, 3)) (hL : Cond.methodLink (hmY M).cls idx (hmY M') ∈ hwd) (hm : hMv (hmY M') (hmB M') (hmN M') (hmT M') 1) (hq : (hmY M').cls = "java/lang/String") (hZ : hmZ M' = none) (hf : hfit M M' ck cn = true) (hst : Nat.ble (st.map fun v => v.category).sum 8 = true) (kk : ∀ (v : Option Value) (r' : hR) (σ' : hS) (τ' : hT), hmQ M' v r' σ' τ' → hV G M (ck + hmc M') (cn + hms M') (hmE M') (pc + 3) lv (hpush v st) r' σ' τ') : hV G M ck cn Sh pc lv (a0 :: .ref (hgK G i) :: st) r σ τ :=
  hv_callVS M' [a0] hd hL hm rfl hi hq hZ hf hst hC (fun v r' σ' τ' h => hpush_eq v st ▸ kk v r' σ' τ' h)
theorem hv_cw2 {M' : hMe} {idx i : Nat} {a0 a1 : Value} (hi : i < 2) (hC : hCal G M' (.ref (hgK G i) :: [a0, a1]) Sh r σ τ) (hd : decode (hmB M) pc = .ok (.invokevirtual idx, 3)) (hL : Cond.methodLink (hmY M).cls idx (hmY M') ∈ hwd) (hm : hMv (hmY M') (hmB M') (hmN M') (hmT M') 2) (hq : (hmY M').cls = "java/lang/String") (hZ : hmZ M' = none) (hf : hfit M M' ck cn = true) (hst : Nat.ble (st.map fun v => v.category).sum 8 = true) (kk : ∀ (v : Option Value) (r' : hR) (σ' : hS) (τ' : hT), hmQ M' v r' σ' τ' → hV G M (ck + hmc M') (cn + hms M') (hmE M') (pc + 3) lv (hpush v st) r' σ' τ') : hV G M ck cn Sh pc lv (a1 :: a0 :: .ref (hgK G i) :: st) r σ τ :=
  hv_callVS M' [a0, a1] hd hL hm rfl hi hq hZ hf hst hC (fun v r' σ' τ' h => hpush_eq v st ▸ kk v r' σ' τ' h)
end S65

