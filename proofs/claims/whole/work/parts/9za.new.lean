/-! what is made anew -/
theorem kar_int : Cond.arrayClass .int ∈ hwd := hmem 180 (by decide +kernel) rfl
theorem kar_byte : Cond.arrayClass .byte ∈ hwd := hmem 151 (by decide +kernel) rfl
theorem kar_boolean : Cond.arrayClass .boolean ∈ hwd := hmem 311 (by decide +kernel) rfl
theorem kar_long : Cond.arrayClass .long ∈ hwd := hmem 1524 (by decide +kernel) rfl
theorem koi : Cond.instanceMethod objectInit ∈ hwd := hmem 134 (by decide +kernel) rfl
theorem koc : Cond.code objectInit ⟨#[0xb1]⟩ 1 none ∈ hwd := hmem 135 (by decide +kernel) rfl
theorem ol_X11 : Cond.methodLink RX11 1 objectInit ∈ hwd := hmem 133 (by decide +kernel) rfl
theorem ol_X7 : Cond.methodLink RX7 3 objectInit ∈ hwd := hmem 141 (by decide +kernel) rfl
theorem ol_X9 : Cond.methodLink RX9 1 objectInit ∈ hwd := hmem 157 (by decide +kernel) rfl
theorem ol_X4 : Cond.methodLink RX4 3 objectInit ∈ hwd := hmem 186 (by decide +kernel) rfl
theorem ol_X8 : Cond.methodLink RX8 3 objectInit ∈ hwd := hmem 219 (by decide +kernel) rfl
theorem ol_X6 : Cond.methodLink RX6 3 objectInit ∈ hwd := hmem 249 (by decide +kernel) rfl
theorem ol_X5 : Cond.methodLink RX5 1 objectInit ∈ hwd := hmem 293 (by decide +kernel) rfl
theorem ol_X2 : Cond.methodLink RX2 3 objectInit ∈ hwd := hmem 317 (by decide +kernel) rfl
theorem ol_X0 : Cond.methodLink RX0 3 objectInit ∈ hwd := hmem 346 (by decide +kernel) rfl
theorem ol_X3 : Cond.methodLink RX3 3 objectInit ∈ hwd := hmem 374 (by decide +kernel) rfl
theorem ol_X10 : Cond.methodLink RX10 3 objectInit ∈ hwd := hmem 391 (by decide +kernel) rfl
theorem ol_X1 : Cond.methodLink RX1 5 objectInit ∈ hwd := hmem 397 (by decide +kernel) rfl
theorem ol_X12 : Cond.methodLink RX12 7 objectInit ∈ hwd := hmem 1306 (by decide +kernel) rfl
theorem hWd_app {ca : Nat → ClassId} {ad : Nat → Nat} {r : hR} {σ : hS} {τ : hT} (q : Nat × Nat) : ∀ (Sh : hSh) (k : Nat), hWd ca ad r σ τ k (Sh ++ [q]) = hWd ca ad r σ τ k Sh ++ [(ad (k + Sh.length), hEk ca ad r σ τ (k + Sh.length) q)]
  | [], k => rfl
  | x :: t, k => by
    show (ad k, hEk ca ad r σ τ k x) :: hWd ca ad r σ τ (k + 1) (t ++ [q]) = (ad k, hEk ca ad r σ τ k x) :: (hWd ca ad r σ τ (k + 1) t ++ _)
    rw [hWd_app q t (k + 1), List.length_cons, show k + 1 + t.length = k + (t.length + 1) by omega]
theorem hWd_cg {ca : Nat → ClassId} {ad : Nat → Nat} {r r' : hR} {σ σ' : hS} {τ τ' : hT} : ∀ (Sh : hSh) (k : Nat), (∀ i, k ≤ i → i < k + Sh.length → r i = r' i ∧ σ i = σ' i ∧ τ i = τ' i) → hWd ca ad r σ τ k Sh = hWd ca ad r' σ' τ' k Sh
  | [], k, _ => rfl
  | x :: t, k, h => by
    obtain ⟨h1, h2, h3⟩ := h k (Nat.le_refl _) (by rw [List.length_cons]; omega)
    show (ad k, hEk ca ad r σ τ k x) :: hWd ca ad r σ τ (k + 1) t = (ad k, hEk ca ad r' σ' τ' k x) :: hWd ca ad r' σ' τ' (k + 1) t
    rw [hEk_congr h1 h2 h3, hWd_cg t (k + 1) (fun i i1 i2 => h i (by omega) (by rw [List.length_cons]; omega))]
/-- the cells lie in their order -/
def hgN (G : hGl) : Prop := ∀ k, hgA G k = hgB G + k
/-! how a world is made, step by step -/
def pR (o j t : Nat) (r : hR) : hR := va_up r o (va_up (r o) j (some t))
def pI (o j : Nat) (x : Int32) (σ : hS) : hS := va_up σ o (upd (σ o) j x)
def nO (n : Nat) (r : hR) : hR := va_up r n (fun _ => none)
def nZ (n : Nat) (σ : hS) : hS := va_up σ n (fun _ => 0)
def nL (n : Nat) (τ : hT) : hT := va_up τ n (fun _ => 0)
section S9za
variable {G : hGl} {M : hMe} {ck cn : Nat} {pc : Nat} {lv : List (Option Value)} {st : List Value} {r : hR} {σ : hS} {τ : hT}
theorem hsz_lo {n : Nat} {H : Heap} (hg : hgN G) {Sh : hSh} (hl : Sh.length = n) (hn : 0 < n) (hH : hHp G Sh r σ τ H) : hgB G + n ≤ H.size := by
  have e : (hWd (hgC G) (hgA G) r σ τ 0 Sh)[n - 1]? = (Sh[n - 1]?).map (fun q => (hgA G (0 + (n - 1)), hEk (hgC G) (hgA G) r σ τ (0 + (n - 1)) q)) := hWd_get _ _ _ _ _ Sh 0 (n - 1)
  cases hq : Sh[n - 1]? with
  | none => exact absurd (List.getElem?_eq_none_iff.mp hq) (by omega)
  | some q =>
    rw [hq] at e
    have h1 := (hH.1 (n - 1) _ e).lt
    dsimp only at h1
    rw [hg] at h1
    omega
/-- where a new cell comes to lie -/
theorem hsz_new {n q : Nat} {Sh : hSh} {e : va_E} {H1 : Heap} (hg : hgN G) (hl : Sh.length = n) (hP : va_P (hgD G) vwCl (hWd (hgC G) (hgA G) r σ τ 0 Sh ++ [(q, e)]) H1) (hD : va_D (hFr G) (hWd (hgC G) (hgA G) r σ τ 0 Sh ++ [(q, e)])) (hz : H1.size ≤ hgB G + n + 1) : q = hgA G n := by
  have hlen := hWd_len (hgC G) (hgA G) r σ τ Sh 0
  have hlast : (hWd (hgC G) (hgA G) r σ τ 0 Sh ++ [(q, e)])[n]? = some (q, e) := by
    rw [List.getElem?_append_right (by omega), hlen, hl, Nat.sub_self]; rfl
  have h1 := (hP n _ hlast).lt
  have h2 : hgB G ≤ q := hD.2 n _ hlast
  rw [hg]
  dsimp only at h1
  refine Classical.byContradiction (fun hne => ?_)
  have hi : q - hgB G < n := by omega
  have hk : (hWd (hgC G) (hgA G) r σ τ 0 Sh ++ [(q, e)])[q - hgB G]? = (Sh[q - hgB G]?).map (fun z => (hgA G (0 + (q - hgB G)), hEk (hgC G) (hgA G) r σ τ (0 + (q - hgB G)) z)) := by
    rw [List.getElem?_append_left (by omega), hWd_get]
  cases hq : Sh[q - hgB G]? with
  | none => exact absurd (List.getElem?_eq_none_iff.mp hq) (by omega)
  | some z =>
    rw [hq] at hk
    have := hD.1 (q - hgB G) n _ _ hk hlast (by dsimp only; rw [hg]; omega)
    omega
theorem hA_old {s : State} (hI : hIn G s) : ∀ q, s.heap.size ≤ q → hFr G q := fun q hq => Nat.le_trans hI.1 hq
theorem hv_new_int {n z N : Nat} {c : Int32} {Sh Sh' : hSh} (hd : decode (hmB M) pc = .ok (.newarray .int, 2)) (hz : hmZ M = some z) (hn : n = z + ck) (hg : hgN G) (hl : Sh.length = n) (hs : Sh ++ [(1, N)] = Sh') (hc : c = nI N) (hN : N ≤ 4000) (hck : Nat.ble (ck + 1) (hmR M).cells = true) (hcn : Nat.ble (cn + N) (hmR M).slots = true) (h : hV G M (ck + 1) (cn + N) Sh' (pc + 2) lv (.ref (hgA G n) :: st) r (nZ n σ) τ) : hV G M ck cn Sh pc lv (.int c :: st) r σ τ := by
  intro p e s m args below meth c0 C H locs ls hH hS hl2
  subst hc
  subst hs
  have hK := C.2.2.2.2.2.2.2.1.2.1
  refine va_newa C.1 C.2.1 (atype := .int) (C.2.2.2.2.2.1 _ kar_int) (ty := .int) rfl hK hH.1 hH.2 hS (hA_old C.2.2.2.2.2.2.2.1) (n := nI N) (N' := N) (a0 := (N, .inl (fun _ => 0))) (fun cA => rfl) (nI_pos (by omega)) (nI_clamp (by omega)) (by show N * _ ≤ _; unfold componentBytes; dsimp only; omega) (Nat.le_of_ble_eq_true hck) (Nat.le_of_ble_eq_true hcn) hd (fun q cA H1 K1 P1 D1 S1 => ?_)
  intro T1 hT1 X1
  have hZ := (C.2.2.2.2.2.2.2.2.2 z hz).1
  have hsz := X1.heapSize
  rw [hT1] at hsz
  have hq := hsz_new hg hl P1 D1 (by omega)
  have hcA : cA = hgC G 0 := by
    have h1 : s.vm.findClass ("[" ++ (FieldType.int).toString) = some cA := (K1.2 4 (cA, .int) rfl).2
    have h2 : s.vm.findClass ("[" ++ (FieldType.int).toString) = some (hgC G 0) := (hK.2 0 (_, .int) rfl).2
    exact Option.some.inj (h1.symm.trans h2)
  subst hq
  subst hcA
  have e0 : hWd (hgC G) (hgA G) r (va_up σ n (fun _ => 0)) τ 0 (Sh ++ [(1, N)]) = hWd (hgC G) (hgA G) r σ τ 0 Sh ++ [(hgA G n, .inl (hgC G 0, N, .inl (fun _ => 0)))] := by
    rw [hWd_app, hl, Nat.zero_add]
    congr 1
    · exact hWd_cg Sh 0 (fun i _ h2 => ⟨rfl, hva_ne (by omega), rfl⟩)
    · show [(hgA G n, Sum.inl (hgC G 0, N, Sum.inl (va_up σ n (fun _ => 0) n)))] = _
      rw [hup_eq]
  rw [← e0] at P1 D1
  exact h p e s m args below meth c0 C H1 locs ls ⟨P1, D1⟩ S1 hl2 T1 hT1 X1
theorem hv_new_byte {n z N : Nat} {c : Int32} {Sh Sh' : hSh} (hd : decode (hmB M) pc = .ok (.newarray .byte, 2)) (hz : hmZ M = some z) (hn : n = z + ck) (hg : hgN G) (hl : Sh.length = n) (hs : Sh ++ [(2, N)] = Sh') (hc : c = nI N) (hN : N ≤ 4000) (hck : Nat.ble (ck + 1) (hmR M).cells = true) (hcn : Nat.ble (cn + N) (hmR M).slots = true) (h : hV G M (ck + 1) (cn + N) Sh' (pc + 2) lv (.ref (hgA G n) :: st) r (nZ n σ) τ) : hV G M ck cn Sh pc lv (.int c :: st) r σ τ := by
  intro p e s m args below meth c0 C H locs ls hH hS hl2
  subst hc
  subst hs
  have hK := C.2.2.2.2.2.2.2.1.2.1
  refine va_newa C.1 C.2.1 (atype := .byte) (C.2.2.2.2.2.1 _ kar_byte) (ty := .byte) rfl hK hH.1 hH.2 hS (hA_old C.2.2.2.2.2.2.2.1) (n := nI N) (N' := N) (a0 := (N, .inl (fun _ => 0))) (fun cA => rfl) (nI_pos (by omega)) (nI_clamp (by omega)) (by show N * _ ≤ _; unfold componentBytes; dsimp only; omega) (Nat.le_of_ble_eq_true hck) (Nat.le_of_ble_eq_true hcn) hd (fun q cA H1 K1 P1 D1 S1 => ?_)
  intro T1 hT1 X1
  have hZ := (C.2.2.2.2.2.2.2.2.2 z hz).1
  have hsz := X1.heapSize
  rw [hT1] at hsz
  have hq := hsz_new hg hl P1 D1 (by omega)
  have hcA : cA = hgC G 1 := by
    have h1 : s.vm.findClass ("[" ++ (FieldType.byte).toString) = some cA := (K1.2 4 (cA, .byte) rfl).2
    have h2 : s.vm.findClass ("[" ++ (FieldType.byte).toString) = some (hgC G 1) := (hK.2 1 (_, .byte) rfl).2
    exact Option.some.inj (h1.symm.trans h2)
  subst hq
  subst hcA
  have e0 : hWd (hgC G) (hgA G) r (va_up σ n (fun _ => 0)) τ 0 (Sh ++ [(2, N)]) = hWd (hgC G) (hgA G) r σ τ 0 Sh ++ [(hgA G n, .inl (hgC G 1, N, .inl (fun _ => 0)))] := by
    rw [hWd_app, hl, Nat.zero_add]
    congr 1
    · exact hWd_cg Sh 0 (fun i _ h2 => ⟨rfl, hva_ne (by omega), rfl⟩)
    · show [(hgA G n, Sum.inl (hgC G 1, N, Sum.inl (va_up σ n (fun _ => 0) n)))] = _
      rw [hup_eq]
  rw [← e0] at P1 D1
  exact h p e s m args below meth c0 C H1 locs ls ⟨P1, D1⟩ S1 hl2 T1 hT1 X1
theorem hv_new_boolean {n z N : Nat} {c : Int32} {Sh Sh' : hSh} (hd : decode (hmB M) pc = .ok (.newarray .boolean, 2)) (hz : hmZ M = some z) (hn : n = z + ck) (hg : hgN G) (hl : Sh.length = n) (hs : Sh ++ [(3, N)] = Sh') (hc : c = nI N) (hN : N ≤ 4000) (hck : Nat.ble (ck + 1) (hmR M).cells = true) (hcn : Nat.ble (cn + N) (hmR M).slots = true) (h : hV G M (ck + 1) (cn + N) Sh' (pc + 2) lv (.ref (hgA G n) :: st) r (nZ n σ) τ) : hV G M ck cn Sh pc lv (.int c :: st) r σ τ := by
  intro p e s m args below meth c0 C H locs ls hH hS hl2
  subst hc
  subst hs
  have hK := C.2.2.2.2.2.2.2.1.2.1
  refine va_newa C.1 C.2.1 (atype := .boolean) (C.2.2.2.2.2.1 _ kar_boolean) (ty := .boolean) rfl hK hH.1 hH.2 hS (hA_old C.2.2.2.2.2.2.2.1) (n := nI N) (N' := N) (a0 := (N, .inl (fun _ => 0))) (fun cA => rfl) (nI_pos (by omega)) (nI_clamp (by omega)) (by show N * _ ≤ _; unfold componentBytes; dsimp only; omega) (Nat.le_of_ble_eq_true hck) (Nat.le_of_ble_eq_true hcn) hd (fun q cA H1 K1 P1 D1 S1 => ?_)
  intro T1 hT1 X1
  have hZ := (C.2.2.2.2.2.2.2.2.2 z hz).1
  have hsz := X1.heapSize
  rw [hT1] at hsz
  have hq := hsz_new hg hl P1 D1 (by omega)
  have hcA : cA = hgC G 2 := by
    have h1 : s.vm.findClass ("[" ++ (FieldType.boolean).toString) = some cA := (K1.2 4 (cA, .boolean) rfl).2
    have h2 : s.vm.findClass ("[" ++ (FieldType.boolean).toString) = some (hgC G 2) := (hK.2 2 (_, .boolean) rfl).2
    exact Option.some.inj (h1.symm.trans h2)
  subst hq
  subst hcA
  have e0 : hWd (hgC G) (hgA G) r (va_up σ n (fun _ => 0)) τ 0 (Sh ++ [(3, N)]) = hWd (hgC G) (hgA G) r σ τ 0 Sh ++ [(hgA G n, .inl (hgC G 2, N, .inl (fun _ => 0)))] := by
    rw [hWd_app, hl, Nat.zero_add]
    congr 1
    · exact hWd_cg Sh 0 (fun i _ h2 => ⟨rfl, hva_ne (by omega), rfl⟩)
    · show [(hgA G n, Sum.inl (hgC G 2, N, Sum.inl (va_up σ n (fun _ => 0) n)))] = _
      rw [hup_eq]
  rw [← e0] at P1 D1
  exact h p e s m args below meth c0 C H1 locs ls ⟨P1, D1⟩ S1 hl2 T1 hT1 X1
theorem hv_new_long {n z N : Nat} {c : Int32} {Sh Sh' : hSh} (hd : decode (hmB M) pc = .ok (.newarray .long, 2)) (hz : hmZ M = some z) (hn : n = z + ck) (hg : hgN G) (hl : Sh.length = n) (hs : Sh ++ [(4, N)] = Sh') (hc : c = nI N) (hN : N ≤ 4000) (hck : Nat.ble (ck + 1) (hmR M).cells = true) (hcn : Nat.ble (cn + N) (hmR M).slots = true) (h : hV G M (ck + 1) (cn + N) Sh' (pc + 2) lv (.ref (hgA G n) :: st) r σ (nL n τ)) : hV G M ck cn Sh pc lv (.int c :: st) r σ τ := by
  intro p e s m args below meth c0 C H locs ls hH hS hl2
  subst hc
  subst hs
  have hK := C.2.2.2.2.2.2.2.1.2.1
  refine va_newa C.1 C.2.1 (atype := .long) (C.2.2.2.2.2.1 _ kar_long) (ty := .long) rfl hK hH.1 hH.2 hS (hA_old C.2.2.2.2.2.2.2.1) (n := nI N) (N' := N) (a0 := (N, .inr (.inl (fun _ => 0)))) (fun cA => rfl) (nI_pos (by omega)) (nI_clamp (by omega)) (by show N * _ ≤ _; unfold componentBytes; dsimp only; omega) (Nat.le_of_ble_eq_true hck) (Nat.le_of_ble_eq_true hcn) hd (fun q cA H1 K1 P1 D1 S1 => ?_)
  intro T1 hT1 X1
  have hZ := (C.2.2.2.2.2.2.2.2.2 z hz).1
  have hsz := X1.heapSize
  rw [hT1] at hsz
  have hq := hsz_new hg hl P1 D1 (by omega)
  have hcA : cA = hgC G 3 := by
    have h1 : s.vm.findClass ("[" ++ (FieldType.long).toString) = some cA := (K1.2 4 (cA, .long) rfl).2
    have h2 : s.vm.findClass ("[" ++ (FieldType.long).toString) = some (hgC G 3) := (hK.2 3 (_, .long) rfl).2
    exact Option.some.inj (h1.symm.trans h2)
  subst hq
  subst hcA
  have e0 : hWd (hgC G) (hgA G) r σ (va_up τ n (fun _ => 0)) 0 (Sh ++ [(4, N)]) = hWd (hgC G) (hgA G) r σ τ 0 Sh ++ [(hgA G n, .inl (hgC G 3, N, .inr (.inl (fun _ => 0))))] := by
    rw [hWd_app, hl, Nat.zero_add]
    congr 1
    · exact hWd_cg Sh 0 (fun i _ h2 => ⟨rfl, rfl, hva_ne (by omega)⟩)
    · show [(hgA G n, Sum.inl (hgC G 3, N, Sum.inr (Sum.inl (va_up τ n (fun _ => 0) n))))] = _
      rw [hup_eq]
  rw [← e0] at P1 D1
  exact h p e s m args below meth c0 C H1 locs ls ⟨P1, D1⟩ S1 hl2 T1 hT1 X1
theorem hfs_0 {ad : Nat → Nat} {r : hR} {σ : hS} {k : Nat} (hr : ∀ j, r k j = none) (hs : ∀ j, σ k j = 0) (fl : List Bool) {j : Nat} (hj : j < fl.length) : vp_V (hfs ad r σ k 0 fl) j = if fl[j]? = some true then .null else .int 0 := by
  unfold vp_V
  rw [List.getD_eq_getElem?_getD, hfs_get, Nat.zero_add]
  cases hq : fl[j]? with
  | none => exact absurd (List.getElem?_eq_none_iff.mp hq) (by omega)
  | some b =>
    cases b with
    | false => rw [if_neg (by simp)]; show Value.int (σ k j) = _; rw [hs]
    | true => rw [if_pos rfl]; show va_rf ((r k j).map ad) = _; rw [hr]; rfl
theorem hv_new {n z ci idx N : Nat} {Cn : String} {T : u_T} {Sh Sh' : hSh} (hd : decode (hmB M) pc = .ok (.new idx, 3)) (hc : vwCl[ci]? = some (Cn, T, N)) (hcl : Cond.classLink (hmY M).cls idx Cn ∈ hwd) (hi : Cond.instantiable Cn N ∈ hwd) (hini : Cond.initialized Cn ∈ hwd) (hz : hmZ M = some z) (hn : n = z + ck) (hg : hgN G) (hl : Sh.length = n) (hs : Sh ++ [(0, ci)] = Sh') (hck : Nat.ble (ck + 1) (hmR M).cells = true) (hcn : Nat.ble (cn + N) (hmR M).slots = true) (h : hV G M (ck + 1) (cn + N) Sh' (pc + 3) lv (.ref (hgA G n) :: st) (nO n r) (nZ n σ) τ) : hV G M ck cn Sh pc lv st r σ τ := by
  intro p e s m args below meth c0 C H locs ls hH hS hl2
  subst hs
  have hK := C.2.2.2.2.2.2.2.1.2.1
  have hts := C.2.2.2.2.2.1
  obtain ⟨hin, ty, ht1, ht2, hlen, hdf⟩ := hcls_ok ci Cn T N hc
  refine va_new C.1 C.2.1 hts hin ty ht1 C.2.2.2.2.1 (hts _ hcl) (hts _ hi) (hts _ hini) hK hH.1 hH.2 hS (hA_old C.2.2.2.2.2.2.2.1) hc (fs := hfs (hgA G) (va_up r n (fun _ => none)) (va_up σ n (fun _ => 0)) n 0 (hfl.getD ci [])) (fun j hj => by rw [hfs_0 (fun j => by rw [hup_eq]) (fun j => by rw [hup_eq]) _ (by omega)]; exact hdf j hj) (Nat.le_of_ble_eq_true hck) (Nat.le_of_ble_eq_true hcn) hd (fun q H1 P1 D1 S1 => ?_)
  intro T1 hT1 X1
  have hZ := (C.2.2.2.2.2.2.2.2.2 z hz).1
  have hsz := X1.heapSize
  rw [hT1] at hsz
  have hq := hsz_new hg hl P1 D1 (by omega)
  subst hq
  have e0 : hWd (hgC G) (hgA G) (va_up r n (fun _ => none)) (va_up σ n (fun _ => 0)) τ 0 (Sh ++ [(0, ci)]) = hWd (hgC G) (hgA G) r σ τ 0 Sh ++ [(hgA G n, .inr (ci, hfs (hgA G) (va_up r n (fun _ => none)) (va_up σ n (fun _ => 0)) n 0 (hfl.getD ci [])))] := by
    rw [hWd_app, hl, Nat.zero_add]
    congr 1
    exact hWd_cg Sh 0 (fun i _ h2 => ⟨hva_ne (by omega), hva_ne (by omega), rfl⟩)
  rw [← e0] at P1 D1
  exact h p e s m args below meth c0 C H1 locs ls ⟨P1, D1⟩ S1 hl2 T1 hT1 X1
theorem hv_obj {idx k : Nat} {Sh : hSh} (hd : decode (hmB M) pc = .ok (.invokespecial idx, 3)) (hl : Cond.methodLink (hmY M).cls idx objectInit ∈ hwd) (hf : Nat.ble 1 (hmR M).frames = true) (hlo : Nat.ble ((st.map fun v => v.category).sum + 12) (hmR M).locals = true) (h : hV G M ck cn Sh (pc + 3) lv st r σ τ) : hV G M ck cn Sh pc lv (.ref (hgA G k) :: st) r σ τ := by
  intro p e s m args below meth c0 C H locs ls hH hS hl2
  have hts := C.2.2.2.2.2.1
  refine W.objInit C.1 C.2.1 C.2.2.2.2.1 (hts _ hl) (hts _ koi) (hts _ koc) rfl (by rw [C.2.2.2.1]; exact hl2.1) rfl hd (Nat.le_of_ble_eq_true hf) ?_ (h p e s m args below meth c0 C H locs ls hH hS hl2)
  have := Nat.le_of_ble_eq_true hlo
  show 2 * 0 + _ + 12 ≤ _
  omega
/-- what a maker of cells asks of its caller -/
theorem hZs_at {M' : hMe} {z n : Nat} {p : Program} {s U : State} {m : MethodId} {args : Array Value} {meth : Method} {c : Code} {H : Heap} {locs : List Loc} (C : hCx G M p s m args meth c) (hz : hmZ M = some z) (hz' : hmZ M' = some n) (hS : va_S (hFr G) s.heap H locs) (hU : U.heap = H) (hW : s.WarmedH U.vm) (hsz : H.size = hgB G + n) : hZs G M' U := by
  obtain ⟨h1, h2, h3, h4⟩ := C.2.2.2.2.2.2.2.2.2 z hz
  intro k hk
  have : k = n := Option.some.inj (hk.symm.trans hz')
  subst this
  refine ⟨by rw [hU]; exact hsz, fun w hw => ?_, (va_X.moved hW.alike h3).kept ?_, h4⟩
  · have hw2 := h2 w hw
    unfold hnw at hw
    simp only [List.mem_cons, List.not_mem_nil, or_false] at hw
    rcases hw with rfl | rfl | rfl | rfl | rfl | rfl | rfl <;> exact va_Nw.warmM hW hw2
  · rw [hU]
    exact hS.2.1 _ (by omega) (fun q => absurd q (by unfold hFr; omega))
theorem hsz_eq {z n : Nat} {Sh : hSh} {p : Program} {l : Launch} {e : Env} {R : Room} {below : List Frame} {s T : State} {m : MethodId} {args : Array Value} {meth : Method} {c : Code} {H : Heap} {locs : List Loc} (C : hCx G M p s m args meth c) (hz : hmZ M = some z) (hn : n = z + ck) (hg : hgN G) (hl : Sh.length = n) (hH : hHp G Sh r σ τ H) (hS : va_S (hFr G) s.heap H locs) (hT : T.heap = H) (X : Stand p l e R s m args below meth c T locs ck cn) : H.size = hgB G + n := by
  have hZ := (C.2.2.2.2.2.2.2.2.2 z hz).1
  have hsz := X.heapSize
  rw [hT] at hsz
  have h1 := hS.1
  by_cases h0 : 0 < n
  · have := hsz_lo hg hl h0 hH
    omega
  · omega
theorem hv_callI (M' : hMe) {idx b n z k : Nat} {Sh : hSh} (As : List Value) (hd : decode (hmB M) pc = .ok (.invokespecial idx, 3)) (hL : Cond.methodLink (hmY M).cls idx (hmY M') ∈ hwd) (hm : hMi (hmY M') (hmB M') (hmN M') n) (hn : As.length = n) (hT' : hmT M' = none) (hz : hmZ M = some z) (hz' : hmZ M' = some k) (hk : k = z + ck) (hg : hgN G) (hl : Sh.length = k) (hf : hfit M M' ck cn = true) (hst : Nat.ble (st.map fun v => v.category).sum 8 = true) (hC : hCal G M' (.ref (hgA G b) :: As) Sh r σ τ) (kk : ∀ (v : Option Value) (r' : hR) (σ' : hS) (τ' : hT), hmQ M' v r' σ' τ' → hV G M (ck + hmc M') (cn + hms M') (hmE M') (pc + 3) lv (v.toList ++ st) r' σ' τ') : hV G M ck cn Sh pc lv (As.reverse ++ .ref (hgA G b) :: st) r σ τ := by
  intro p e s m args below meth c C H locs ls hH hS hl2 T hT X
  obtain ⟨f1, f2, f3, f4, f5, f6⟩ := hfit_spec hf
  obtain ⟨⟨m1, m2, m3, m4⟩, md⟩ := hm
  have hts := C.2.2.2.2.2.1
  have hsz := hsz_eq C hz hk hg hl hH hS hT X
  unfold hCal at hC
  rw [hT'] at hC
  have hb : CallB (hmR M) s args (hmY M).cls idx (hmY M') (hmB M') (hmN M') none (Cond.code (hmY M') (hmB M') (hmN M') none :: hwd) (hmR M') (hmc M') (hms M') n :=
    callB_of n hts (hgood m3) rfl f1 f2 (hts _ m2) (hts _ hL) md ⟨f3, f4⟩
  exact hgoes C hS hl2 (va_runI ⟨C.1, C.2.1, C.2.2.2.1, C.2.2.2.2.1, hts⟩ hC ⟨hb, m4, hts _ m1⟩ ⟨hblind, fun U hU hW => ⟨rfl, hIn_at C.2.2.2.2.2.2.2.1 hS hU hW, hZs_at C hz hz' hS hU hW hsz, by rw [hU]; exact hH⟩⟩ rfl hn hl2.1 rfl (lv_room (Nat.le_of_ble_eq_true hst)) hd ⟨f5, f6⟩) kk T hT X
theorem hv_callN (M' : hMe) {idx b n z k : Nat} {Sh : hSh} (As : List Value) (hd : decode (hmB M) pc = .ok (.invokespecial idx, 3)) (hL : Cond.methodLinkNest (hmY M).cls idx (hmY M') "HerringShares" ∈ hnw) (hm : hMi (hmY M') (hmB M') (hmN M') n) (hn : As.length = n) (hT' : hmT M' = none) (hz : hmZ M = some z) (hz' : hmZ M' = some k) (hk : k = z + ck) (hg : hgN G) (hl : Sh.length = k) (hf : hfit M M' ck cn = true) (hst : Nat.ble (st.map fun v => v.category).sum 8 = true) (hC : hCal G M' (.ref (hgA G b) :: As) Sh r σ τ) (kk : ∀ (v : Option Value) (r' : hR) (σ' : hS) (τ' : hT), hmQ M' v r' σ' τ' → hV G M (ck + hmc M') (cn + hms M') (hmE M') (pc + 3) lv (v.toList ++ st) r' σ' τ') : hV G M ck cn Sh pc lv (As.reverse ++ .ref (hgA G b) :: st) r σ τ := by
  intro p e s m args below meth c C H locs ls hH hS hl2 T hT X
  obtain ⟨f1, f2, f3, f4, f5, f6⟩ := hfit_spec hf
  obtain ⟨⟨m1, m2, m3, m4⟩, md⟩ := hm
  have hts := C.2.2.2.2.2.1
  have hsz := hsz_eq C hz hk hg hl hH hS hT X
  have hnw' := (C.2.2.2.2.2.2.2.2.2 z hz).2.1
  unfold hCal at hC
  rw [hT'] at hC
  have hb : va_CN (hmR M) s args (hmY M).cls idx (hmY M') "HerringShares" (hmB M') (hmN M') none (Cond.code (hmY M') (hmB M') (hmN M') none :: hwd) (hmR M') (hmc M') (hms M') n :=
    va_cnB n hts (hgood m3) rfl f1 f2 (hnw' _ hL) (hts _ m2) md ⟨f3, f4⟩
  exact hgoes C hS hl2 (va_runIN ⟨C.1, C.2.1, C.2.2.2.1, C.2.2.2.2.1, hts⟩ hC ⟨hb, m4, hts _ m1⟩ ⟨hblind, fun U hU hW => ⟨rfl, hIn_at C.2.2.2.2.2.2.2.1 hS hU hW, hZs_at C hz hz' hS hU hW hsz, by rw [hU]; exact hH⟩⟩ rfl hn hl2.1 rfl (lv_room (Nat.le_of_ble_eq_true hst)) hd ⟨f5, f6⟩) kk T hT X
/-- the law's own script -/
theorem hv_sld {z j : Nat} {i : Int32} {Sh : hSh} (hz : hmZ M = some z) (hd : decode (hmB M) pc = .ok (.iaload, 1)) (hi : i = nI j) (hj : j < (hgX G).2.1) (hL : (hgX G).2.1 < 2 ^ 31) (h : hV G M ck cn Sh (pc + 1) lv (.int ((hgX G).2.2 j) :: st) r σ τ) : hV G M ck cn Sh pc lv (.int i :: .ref (hgX G).1 :: st) r σ τ := by
  intro p e s m args below meth c C H locs ls hH hS hl
  obtain ⟨h1, h2, h3, h4⟩ := C.2.2.2.2.2.2.2.2.2 z hz
  subst hi
  refine va_sld C.1 C.2.1 h3 (by omega) (fun q => absurd q (by unfold hFr; omega)) hS (vp_in_nI hj hL) hd ?_
  rw [nI_clamp (by omega)]
  exact h p e s m args below meth c C H locs ls hH hS hl
theorem hv_slen {z : Nat} {Sh : hSh} (hz : hmZ M = some z) (hd : decode (hmB M) pc = .ok (.arraylength, 1)) (h : hV G M ck cn Sh (pc + 1) lv (.int (nI (hgX G).2.1) :: st) r σ τ) : hV G M ck cn Sh pc lv (.ref (hgX G).1 :: st) r σ τ := by
  intro p e s m args below meth c C H locs ls hH hS hl
  obtain ⟨h1, h2, h3, h4⟩ := C.2.2.2.2.2.2.2.2.2 z hz
  exact va_slen C.1 C.2.1 h3 (by omega) (fun q => absurd q (by unfold hFr; omega)) hS hd (h p e s m args below meth c C H locs ls hH hS hl)
theorem hHp_nil {H : Heap} : hHp G [] r σ τ H := by
  have e : ∀ k, (hWd (hgC G) (hgA G) r σ τ 0 [])[k]? = none := fun k => List.getElem?_nil
  refine ⟨fun k q hq => ?_, fun i j p q hp => ?_, fun k q hq => ?_⟩
  · rw [e] at hq; cases hq
  · rw [e] at hp; cases hp
  · rw [e] at hq; cases hq
/-- the world is let go -/
theorem hv_nil {Sh : hSh} (h : hV G M ck cn [] pc lv st r σ τ) : hV G M ck cn Sh pc lv st r σ τ :=
  fun p e s m args below meth c C H locs ls _ hS hl => h p e s m args below meth c C H locs ls hHp_nil hS hl
/-- another world that is the same on what there is -/
theorem hv_cg {Sh : hSh} {r' : hR} {σ' : hS} {τ' : hT} (he : hWd (hgC G) (hgA G) r σ τ 0 Sh = hWd (hgC G) (hgA G) r' σ' τ' 0 Sh) (h : hV G M ck cn Sh pc lv st r' σ' τ') : hV G M ck cn Sh pc lv st r σ τ :=
  fun p e s m args below meth c C H locs ls hH hS hl => h p e s m args below meth c C H locs ls ⟨by rw [← he]; exact hH.1, by rw [← he]; exact hH.2⟩ hS hl
end S9za
section S9zb
variable {G : hGl} {M : hMe} {ck cn : Nat} {pc : Nat} {lv : List (Option Value)} {st : List Value} {r : hR} {σ : hS} {τ : hT} {Sh : hSh}
theorem hv_pF {idx ci j k t : Nat} {ty : FieldType} (hd : decode (hmB M) pc = .ok (.putfield idx, 3)) (hF : hFl (hmY M).cls idx ci j true ty) (hk : hkd Sh k = (0, ci)) (hf : hfg ci j = some true) (hi : (hmY M).name = "<init>") (ho : ∀ C T N, vwCl[ci]? = some (C, T, N) → (T j).1 = (hmY M).cls) (hn : narrow ty (.ref (hgA G t)) = .ref (hgA G t)) (hfit : fits ty (.ref (hgA G t)) = true) (h : hV G M ck cn Sh (pc + 3) lv st (pR k j t r) σ τ) : hV G M ck cn Sh pc lv (.ref (hgA G t) :: .ref (hgA G k) :: st) r σ τ := hv_putF hd hF hk hf hi ho hn hfit h
theorem hv_pR {idx ci j k t : Nat} {ty : FieldType} (hd : decode (hmB M) pc = .ok (.putfield idx, 3)) (hF : hFl (hmY M).cls idx ci j false ty) (hk : hkd Sh k = (0, ci)) (hf : hfg ci j = some true) (hn : narrow ty (.ref (hgA G t)) = .ref (hgA G t)) (hfit : fits ty (.ref (hgA G t)) = true) (h : hV G M ck cn Sh (pc + 3) lv st (pR k j t r) σ τ) : hV G M ck cn Sh pc lv (.ref (hgA G t) :: .ref (hgA G k) :: st) r σ τ := hv_putr hd hF hk hf hn hfit h
theorem hv_pI {idx ci j k : Nat} {ty : FieldType} {x : Int32} (hd : decode (hmB M) pc = .ok (.putfield idx, 3)) (hF : hFl (hmY M).cls idx ci j false ty) (hk : hkd Sh k = (0, ci)) (hf : hfg ci j = some false) (hn : narrow ty (.int x) = .int x) (hfit : fits ty (.int x) = true) (h : hV G M ck cn Sh (pc + 3) lv st r (pI k j x σ) τ) : hV G M ck cn Sh pc lv (.int x :: .ref (hgA G k) :: st) r σ τ := hv_puti hd hF hk hf hn hfit h
theorem hv_ci0 {M' : hMe} {idx b z k : Nat} (hC : hCal G M' (.ref (hgA G b) :: []) Sh r σ τ) (hd : decode (hmB M) pc = .ok (.invokespecial idx, 3)) (hL : Cond.methodLink (hmY M).cls idx (hmY M') ∈ hwd) (hm : hMi (hmY M') (hmB M') (hmN M') 0) (hT' : hmT M' = none) (hz : hmZ M = some z) (hz' : hmZ M' = some k) (hk : k = z + ck) (hg : hgN G) (hl : Sh.length = k) (hf : hfit M M' ck cn = true) (hst : Nat.ble (st.map fun v => v.category).sum 8 = true) (kk : ∀ (v : Option Value) (r' : hR) (σ' : hS) (τ' : hT), hmQ M' v r' σ' τ' → hV G M (ck + hmc M') (cn + hms M') (hmE M') (pc + 3) lv (hpush v st) r' σ' τ') : hV G M ck cn Sh pc lv (.ref (hgA G b) :: st) r σ τ :=
  hv_callI M' [] hd hL hm rfl hT' hz hz' hk hg hl hf hst hC (fun v r' σ' τ' h => hpush_eq v st ▸ kk v r' σ' τ' h)
theorem hv_cn0 {M' : hMe} {idx b z k : Nat} (hC : hCal G M' (.ref (hgA G b) :: []) Sh r σ τ) (hd : decode (hmB M) pc = .ok (.invokespecial idx, 3)) (hL : Cond.methodLinkNest (hmY M).cls idx (hmY M') "HerringShares" ∈ hnw) (hm : hMi (hmY M') (hmB M') (hmN M') 0) (hT' : hmT M' = none) (hz : hmZ M = some z) (hz' : hmZ M' = some k) (hk : k = z + ck) (hg : hgN G) (hl : Sh.length = k) (hf : hfit M M' ck cn = true) (hst : Nat.ble (st.map fun v => v.category).sum 8 = true) (kk : ∀ (v : Option Value) (r' : hR) (σ' : hS) (τ' : hT), hmQ M' v r' σ' τ' → hV G M (ck + hmc M') (cn + hms M') (hmE M') (pc + 3) lv (hpush v st) r' σ' τ') : hV G M ck cn Sh pc lv (.ref (hgA G b) :: st) r σ τ :=
  hv_callN M' [] hd hL hm rfl hT' hz hz' hk hg hl hf hst hC (fun v r' σ' τ' h => hpush_eq v st ▸ kk v r' σ' τ' h)
theorem hv_ci1 {M' : hMe} {idx b z k : Nat} {a0 : Value} (hC : hCal G M' (.ref (hgA G b) :: [a0]) Sh r σ τ) (hd : decode (hmB M) pc = .ok (.invokespecial idx, 3)) (hL : Cond.methodLink (hmY M).cls idx (hmY M') ∈ hwd) (hm : hMi (hmY M') (hmB M') (hmN M') 1) (hT' : hmT M' = none) (hz : hmZ M = some z) (hz' : hmZ M' = some k) (hk : k = z + ck) (hg : hgN G) (hl : Sh.length = k) (hf : hfit M M' ck cn = true) (hst : Nat.ble (st.map fun v => v.category).sum 8 = true) (kk : ∀ (v : Option Value) (r' : hR) (σ' : hS) (τ' : hT), hmQ M' v r' σ' τ' → hV G M (ck + hmc M') (cn + hms M') (hmE M') (pc + 3) lv (hpush v st) r' σ' τ') : hV G M ck cn Sh pc lv (a0 :: .ref (hgA G b) :: st) r σ τ :=
  hv_callI M' [a0] hd hL hm rfl hT' hz hz' hk hg hl hf hst hC (fun v r' σ' τ' h => hpush_eq v st ▸ kk v r' σ' τ' h)
theorem hv_cn1 {M' : hMe} {idx b z k : Nat} {a0 : Value} (hC : hCal G M' (.ref (hgA G b) :: [a0]) Sh r σ τ) (hd : decode (hmB M) pc = .ok (.invokespecial idx, 3)) (hL : Cond.methodLinkNest (hmY M).cls idx (hmY M') "HerringShares" ∈ hnw) (hm : hMi (hmY M') (hmB M') (hmN M') 1) (hT' : hmT M' = none) (hz : hmZ M = some z) (hz' : hmZ M' = some k) (hk : k = z + ck) (hg : hgN G) (hl : Sh.length = k) (hf : hfit M M' ck cn = true) (hst : Nat.ble (st.map fun v => v.category).sum 8 = true) (kk : ∀ (v : Option Value) (r' : hR) (σ' : hS) (τ' : hT), hmQ M' v r' σ' τ' → hV G M (ck + hmc M') (cn + hms M') (hmE M') (pc + 3) lv (hpush v st) r' σ' τ') : hV G M ck cn Sh pc lv (a0 :: .ref (hgA G b) :: st) r σ τ :=
  hv_callN M' [a0] hd hL hm rfl hT' hz hz' hk hg hl hf hst hC (fun v r' σ' τ' h => hpush_eq v st ▸ kk v r' σ' τ' h)
end S9zb

