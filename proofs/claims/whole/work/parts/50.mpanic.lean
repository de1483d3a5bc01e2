abbrev m_X12_panicBy (Q : hPo) : hMe := (hrm 1, 0, 0, yX12_panicBy, cX12_panicBy, 7, (some FieldType.int), shp, none, Q)
abbrev m_X12_panic (Q : hPo) : hMe := (hrm 2, 0, 0, yX12_panic, cX12_panic, 2, (some FieldType.int), shp, none, Q)
abbrev m_X12_spark (Q : hPo) : hMe := (hrm 2, 0, 0, yX12_spark, cX12_spark, 6, (some FieldType.int), shp, none, Q)
abbrev m_X12_quiet (Q : hPo) : hMe := (hrm 2, 0, 0, yX12_quiet, cX12_quiet, 4, (some FieldType.int), shp, none, Q)
def bsub (A B : Nat) : Prop := ∀ i, i < 7 → A.testBit i = true → B.testBit i = true
theorem bsub.rf {A : Nat} : bsub A A := fun _ _ q => q
theorem bsub.tr {A B C : Nat} (p : bsub A B) (q : bsub B C) : bsub A C := fun i hi k => q i hi (p i hi k)
theorem bsub_eq {A B : Nat} (hA : A < 128) (hB : B < 128) (p : bsub A B) (q : bsub B A) : A = B := by
  apply Nat.eq_of_testBit_eq
  intro i
  by_cases hi : i < 7
  · cases ha : A.testBit i with
    | true => exact (p i hi ha).symm
    | false => cases hb : B.testBit i with
      | true => rw [q i hi hb] at ha; exact absurd ha (by simp)
      | false => rfl
  · have hp : 2 ^ 7 ≤ 2 ^ i := Nat.pow_le_pow_right (by decide) (by omega)
    rw [Nat.testBit_lt_two_pow (Nat.lt_of_lt_of_le hA hp), Nat.testBit_lt_two_pow (Nat.lt_of_lt_of_le hB hp)]
theorem popN_s (A n : Nat) : popN A (n + 1) = popN A n + if A.testBit n = true then 1 else 0 := by rw [popN, div_mod2]
theorem popN_mono {A B : Nat} (p : bsub A B) : ∀ n, n ≤ 7 → popN A n ≤ popN B n
  | 0, _ => Nat.le_refl _
  | n + 1, hn => by
    have ih := popN_mono p n (by omega)
    rw [popN_s, popN_s]
    cases ha : A.testBit n with
    | true => rw [p n (by omega) ha]; simp; omega
    | false => simp; omega
theorem popN_lt {A B i : Nat} (p : bsub A B) (ha : A.testBit i = false) (hb : B.testBit i = true) : ∀ n, n ≤ 7 → i < n → popN A n < popN B n
  | 0, _, hi => absurd hi (by omega)
  | n + 1, hn, hi => by
    rw [popN_s, popN_s]
    by_cases e : i = n
    · subst e
      have := popN_mono p i (by omega)
      rw [ha, hb]; simp; omega
    · have ih := popN_lt p ha hb n (by omega) (by omega)
      cases hc : A.testBit n with
      | true => rw [p n (by omega) hc]; simp; omega
      | false => simp; omega
theorem popN_h {A h : Nat} (q : ∀ i, h ≤ i → i < 7 → A.testBit i = false) : ∀ n, n ≤ 7 → popN A n ≤ h
  | 0, _ => Nat.zero_le _
  | n + 1, hn => by
    rw [popN_s]
    by_cases c : h ≤ n
    · rw [q n c (by omega)]; have := popN_h q n (by omega); simp; omega
    · have := popN_le A n
      split <;> omega
def itN (T : Nat → Nat) (E : Nat) : Nat → Nat
  | 0 => E
  | n + 1 => T (itN T E n)
/-- a step that grows, stays with the houses, stands still at what is closed alone, and stays within what is closed -/
def gStep (h : Nat) (cl : Nat → Prop) (T : Nat → Nat) : Prop := ∀ E, E < 128 → (∀ i, h ≤ i → i < 7 → E.testBit i = false) → bsub E (T E) ∧ T E < 128 ∧ (∀ i, h ≤ i → i < 7 → (T E).testBit i = false) ∧ (T E = E → cl E) ∧ ∀ C, C < 128 → cl C → bsub E C → bsub (T E) C
theorem g_it {h : Nat} {cl : Nat → Prop} {T : Nat → Nat} (g : gStep h cl T) {E : Nat} (hE : E < 128) (hEh : ∀ i, h ≤ i → i < 7 → E.testBit i = false) : ∀ n, itN T E n < 128 ∧ (∀ i, h ≤ i → i < 7 → (itN T E n).testBit i = false) ∧ bsub E (itN T E n) ∧ (∀ C, C < 128 → cl C → bsub E C → bsub (itN T E n) C) ∧ (cl (itN T E n) ∨ n + popN E 7 ≤ popN (itN T E n) 7)
  | 0 => ⟨hE, hEh, bsub.rf, fun _ _ _ q => q, Or.inr (by rw [itN]; omega)⟩
  | n + 1 => by
    obtain ⟨p1, p2, p3, p4, p5⟩ := g_it g hE hEh n
    obtain ⟨q1, q2, q3, q4, q5⟩ := g (itN T E n) p1 p2
    refine ⟨q2, q3, p3.tr q1, fun C hC hc hs => q5 C hC hc (p4 C hC hc hs), ?_⟩
    by_cases e : T (itN T E n) = itN T E n
    · left; rw [itN, e]; exact q4 e
    · rcases p5 with c | c
      · exact absurd (bsub_eq q2 p1 (q5 _ p1 c bsub.rf) q1) e
      · right
        have : ∃ i, i < 7 ∧ (itN T E n).testBit i = false ∧ (T (itN T E n)).testBit i = true := by
          refine Classical.byContradiction (fun no => e (bsub_eq q2 p1 (fun i hi hb => ?_) q1))
          cases hv : (itN T E n).testBit i with
          | true => rfl
          | false => exact absurd ⟨i, hi, hv, hb⟩ no
        obtain ⟨i, hi, h1, h2⟩ := this
        have := popN_lt q1 h1 h2 7 (Nat.le_refl _) hi
        rw [itN]
        omega
theorem g_eq {h : Nat} {cl : Nat → Prop} {T U : Nat → Nat} (gT : gStep h cl T) (gU : gStep h cl U) {E : Nat} (hE : E < 128) (hEh : ∀ i, h ≤ i → i < 7 → E.testBit i = false) (hp : 1 ≤ popN E 7) : itN T E h = itN U E h := by
  obtain ⟨p1, p2, p3, p4, p5⟩ := g_it gT hE hEh h
  obtain ⟨q1, q2, q3, q4, q5⟩ := g_it gU hE hEh h
  have b1 := popN_h p2 7 (Nat.le_refl _)
  have b2 := popN_h q2 7 (Nat.le_refl _)
  have c1 : cl (itN T E h) := p5.resolve_right (by omega)
  have c2 : cl (itN U E h) := q5.resolve_right (by omega)
  exact bsub_eq p1 q1 (p4 _ q1 c2 q3) (q4 _ p1 c1 p3)
/-- all at once -/
def sRnd (hd fe : Nat → Nat) (cm E : Nat) : Nat → Nat
  | 0 => E
  | n + 1 => if cm.testBit n = false ∧ fe n ≤ pop7 (hd n &&& E) then sRnd hd fe cm E n ||| 2 ^ n else sRnd hd fe cm E n
def eCl (hd fe : Nat → Nat) (cm h : Nat) (C : Nat) : Prop := ∀ i, i < h → cm.testBit i = false → fe i ≤ pop7 (hd i &&& C) → C.testBit i = true
theorem and_mono {D A B : Nat} (p : bsub A B) : bsub (D &&& A) (D &&& B) := fun i hi q => by
  rw [Nat.testBit_and] at q ⊢
  rw [Bool.and_eq_true] at q ⊢
  exact ⟨q.1, p i hi q.2⟩
theorem pop7_mono {D A B : Nat} (p : bsub A B) : pop7 (D &&& A) ≤ pop7 (D &&& B) := by
  rw [← popN_7, ← popN_7]; exact popN_mono (and_mono p) 7 (Nat.le_refl _)
theorem or_tb {A n i : Nat} : (A ||| 2 ^ n).testBit i = (A.testBit i || decide (n = i)) := by rw [Nat.testBit_or, Nat.testBit_two_pow]
theorem or_sub {A n : Nat} : bsub A (A ||| 2 ^ n) := fun i _ q => by rw [or_tb, q]; rfl
theorem or_subC {A n C : Nat} (p : bsub A C) (hn : C.testBit n = true) : bsub (A ||| 2 ^ n) C := fun i hi q => by
  rw [or_tb, Bool.or_eq_true] at q
  rcases q with q | q
  · exact p i hi q
  · rw [← of_decide_eq_true q]; exact hn
theorem sRnd_lt {hd fe : Nat → Nat} {cm E : Nat} (hE : E < 128) : ∀ n, n ≤ 7 → sRnd hd fe cm E n < 128
  | 0, _ => hE
  | n + 1, hn => by
    unfold sRnd
    split
    · exact or_lt128 (sRnd_lt hE n (by omega)) (pow_lt7 (by omega))
    · exact sRnd_lt hE n (by omega)
theorem sRnd_g {hd fe : Nat → Nat} {cm h : Nat} (hh : h ≤ 7) : gStep h (eCl hd fe cm h) (fun E => sRnd hd fe cm E h) := by
  intro E hE hEh
  have sub : ∀ n, bsub E (sRnd hd fe cm E n) := by
    intro n
    induction n with
    | zero => exact bsub.rf
    | succ n ih => unfold sRnd; split; exact ih.tr or_sub; exact ih
  have hi : ∀ n, n ≤ h → ∀ i, h ≤ i → i < 7 → (sRnd hd fe cm E n).testBit i = false := by
    intro n
    induction n with
    | zero => intro _; exact hEh
    | succ n ih =>
      intro hn i h1 h2
      unfold sRnd
      split
      · rw [or_tb, ih (by omega) i h1 h2, decide_eq_false (by omega)]; rfl
      · exact ih (by omega) i h1 h2
  have has : ∀ n i, i < n → cm.testBit i = false → fe i ≤ pop7 (hd i &&& E) → (sRnd hd fe cm E n).testBit i = true := by
    intro n
    induction n with
    | zero => intro i hi'; exact absurd hi' (by omega)
    | succ n ih =>
      intro i h1 h2 h3
      unfold sRnd
      by_cases e : i = n
      · subst e; rw [if_pos ⟨h2, h3⟩, or_tb, decide_eq_true rfl, Bool.or_true]
      · split
        · rw [or_tb, ih i (by omega) h2 h3]; rfl
        · exact ih i (by omega) h2 h3
  refine ⟨sub h, sRnd_lt hE h hh, hi h (Nat.le_refl _), fun e i h1 h2 h3 => ?_, fun C hC hc hs => ?_⟩
  · have := has h i h1 h2 h3; rw [show sRnd hd fe cm E h = E from e] at this; exact this
  · have : ∀ n, n ≤ h → bsub (sRnd hd fe cm E n) C := by
      intro n
      induction n with
      | zero => intro _; exact hs
      | succ n ih =>
        intro hn
        unfold sRnd
        split
        · rename_i q
          exact or_subC (ih (by omega)) (hc n (by omega) q.1 (Nat.le_trans q.2 (pop7_mono hs)))
        · exact ih (by omega)
    exact this h (Nat.le_refl _)
theorem eRnd_g {hd fe : Nat → Nat} {cm h : Nat} (hh : h ≤ 7) : gStep h (eCl hd fe cm h) (fun E => eRnd hd fe cm E h) := by
  intro E hE hEh
  have stp : ∀ E i, bsub E (eStp hd fe cm E i) := by
    intro E i; unfold eStp; split; exact or_sub; exact bsub.rf
  have subm : ∀ m n, bsub (eRnd hd fe cm E n) (eRnd hd fe cm E (n + m)) := by
    intro m
    induction m with
    | zero => intro n; exact bsub.rf
    | succ m ih => intro n; exact (ih n).tr (stp _ _)
  have sub0 : ∀ n, bsub E (eRnd hd fe cm E n) := by
    intro n; have := subm n 0; rw [Nat.zero_add] at this; exact this
  have hi : ∀ n, n ≤ h → ∀ i, h ≤ i → i < 7 → (eRnd hd fe cm E n).testBit i = false := by
    intro n
    induction n with
    | zero => intro _; exact hEh
    | succ n ih =>
      intro hn i h1 h2
      unfold eRnd eStp
      split
      · rw [or_tb, ih (by omega) i h1 h2, decide_eq_false (by omega)]; rfl
      · exact ih (by omega) i h1 h2
  refine ⟨sub0 h, eRnd_lt hE h hh, hi h (Nat.le_refl _), fun e i h1 h2 h3 => ?_, fun C hC hc hs => ?_⟩
  · have s1 := subm (h - (i + 1)) (i + 1)
    rw [show i + 1 + (h - (i + 1)) = h by omega, show eRnd hd fe cm E h = E from e] at s1
    refine s1 i (by omega) ?_
    show (eStp hd fe cm (eRnd hd fe cm E i) i).testBit i = true
    unfold eStp
    rw [if_pos ⟨h2, Nat.le_trans h3 (pop7_mono (sub0 i))⟩, or_tb, decide_eq_true rfl, Bool.or_true]
  · have : ∀ n, n ≤ h → bsub (eRnd hd fe cm E n) C := by
      intro n
      induction n with
      | zero => intro _; exact hs
      | succ n ih =>
        intro hn
        unfold eRnd eStp
        split
        · rename_i q
          exact or_subC (ih (by omega)) (hc n (by omega) q.1 (Nat.le_trans q.2 (pop7_mono (ih (by omega)))))
        · exact ih (by omega)
    exact this h (Nat.le_refl _)
theorem eIt_itN {hd fe : Nat → Nat} {cm h E : Nat} : ∀ n, eIt hd fe cm h E n = itN (fun E => eRnd hd fe cm E h) E n
  | 0 => rfl
  | n + 1 => by rw [eIt, itN, eIt_itN n]
theorem pow_tb {b h : Nat} (hb : b < h) : ∀ i, h ≤ i → i < 7 → (2 ^ b).testBit i = false := fun i h1 _ => by
  rw [Nat.testBit_two_pow]; exact decide_eq_false (by omega)
theorem pow_pop : ∀ b, b < 7 → 1 ≤ popN (2 ^ b) 7 := by decide
theorem sEat_eq {hd fe : Nat → Nat} {h cm b : Nat} (hh : h ≤ 7) (hb : b < h) : itN (fun E => sRnd hd fe cm E h) (2 ^ b) h = fEat hd fe h cm b := by
  rw [fEat, eIt_itN]
  exact g_eq (sRnd_g hh) (eRnd_g hh) (pow_lt7 (by omega)) (pow_tb hb) (pow_pop b (by omega))
/-- who hears of whom, and the fears, in the reference -/
def okPM (σ : hS) (L h : Nat) (hd fe : Nat → Nat) : Prop := σ 64 18 = nI L ∧ L < 2 ∧ σ 74 L = nI h ∧ h ≤ 7 ∧ ∀ a, a < h → σ 79 (7 * L + a) = nI (hd a) ∧ hd a < 128 ∧ σ 78 (7 * L + a) = nI (fe a) ∧ fe a ≤ 9
section S50
variable {G : hGl} {σ : hS} {τ : hT} {x y : Option Nat}
theorem d_panicBy {L h b cm : Nat} {hd fe : Nat → Nat} (ok : okPM σ L h hd fe) (hb : b < h) (hcm : cm < 128) : hCal G (m_X12_panicBy (hEq (some (.int (nI (fEat hd fe h cm b)))) (rr 38 51 x y) σ τ)) [.ref (hgA G 64), .int (nI b), .int (nI cm)] shp (rr 38 51 x y) σ τ := by
  obtain ⟨h18, hL2, h74, k2, hpf⟩ := ok
  rw [← sEat_eq k2 hb]
  refine hv_enter pn_X12 rfl ?_
  generalize hQ : hEq (some (.int (nI (itN (fun E => sRnd hd fe cm E h) (2 ^ b) h)))) (rr 38 51 x y) σ τ = Q
  have inner : ∀ k i E T rd, i + k = h → E < 128 → T < 128 → T = sRnd hd fe cm E i → (∀ T', T' < 128 → T' = sRnd hd fe cm E h → hV G (m_X12_panicBy Q) 0 0 shp 103 [some (.ref (hgA G 64)), some (.int (nI b)), some (.int (nI cm)), some (.int (nI E)), some (.int (nI rd)), some (.int (nI T')), some (.int (nI h))] [] (rr 38 51 x y) σ τ) → hV G (m_X12_panicBy Q) 0 0 shp 27 [some (.ref (hgA G 64)), some (.int (nI b)), some (.int (nI cm)), some (.int (nI E)), some (.int (nI rd)), some (.int (nI T)), some (.int (nI i))] [] (rr 38 51 x y) σ τ := by
    intro k
    induction k with
    | zero =>
      intro i E T rd hi hE hT he kk
      obtain rfl : i = h := by omega
      refine hv_iload dX12_panicBy_27 rfl ?_
      refine hv_aload_n dX12_panicBy_29 rfl ?_
      refine hv_getr dX12_panicBy_30 fl_X12_46 (by first | rfl | assumption) rfl (by first | rfl | assumption) ?_
      refine hv_aload_n dX12_panicBy_33 rfl ?_
      refine hv_geti dX12_panicBy_34 fl_X12_233 (by first | rfl | assumption) rfl ?_
      refine hv_iald dX12_panicBy_37 (by first | rfl | assumption) (j := L) h18 (by omega) (by first | decide | assumption) ?_
      refine hv_icmp_ge (tgt := 103) dX12_panicBy_38 (by decide) (fun c_38 => ?_) (fun c_38 => absurd ((by rw [h74]; exact nI_le (Nat.le_refl _) (by omega))) c_38)
      exact kk T hT he
    | succ k ih =>
      intro i E T rd hi hE hT he kk
      obtain ⟨p1, p2, p3, p4⟩ := hpf i (by omega)
      have ix : 7 * σ 64 18 + nI i = nI (7 * L + i) := by rw [h18]; exact ix7
      have hsh := b_bit (m := cm) (i := i) hcm (by omega)
      have nx : sRnd hd fe cm E (i + 1) = if cm.testBit i = false ∧ fe i ≤ pop7 (hd i &&& E) then T ||| 2 ^ i else T := by rw [sRnd, ← he]
      have hor : nI T ||| (1 : Int32) <<< (nI i &&& 31) = nI (T ||| 2 ^ i) := by
        rw [b_shl (by omega), b_or (by omega) (by have := pow_lt7 (i := i) (by omega); omega)]
      refine hv_iload dX12_panicBy_27 rfl ?_
      refine hv_aload_n dX12_panicBy_29 rfl ?_
      refine hv_getr dX12_panicBy_30 fl_X12_46 (by first | rfl | assumption) rfl (by first | rfl | assumption) ?_
      refine hv_aload_n dX12_panicBy_33 rfl ?_
      refine hv_geti dX12_panicBy_34 fl_X12_233 (by first | rfl | assumption) rfl ?_
      refine hv_iald dX12_panicBy_37 (by first | rfl | assumption) (j := L) h18 (by omega) (by first | decide | assumption) ?_
      refine hv_icmp_ge (tgt := 103) dX12_panicBy_38 (by decide) (fun c_38 => absurd c_38 ((by rw [h74]; exact nI_ge (by omega) (by omega)))) (fun c_38 => ?_)
      refine hv_iload_n dX12_panicBy_41 rfl ?_
      refine hv_iload dX12_panicBy_42 rfl ?_
      refine hv_ishr dX12_panicBy_44 ?_
      refine hv_iconst (v := 1) dX12_panicBy_45 (by decide) ?_
      refine hv_iand dX12_panicBy_46 ?_
      rw [hsh]
      refine hv_if_ne (tgt := 97) dX12_panicBy_47 (by decide) (fun c_47 => ?_) (fun c_47 => ?_)
      · rw [if_neg (fun qq => c_47 (by rw [qq.1]; rfl))] at nx
        refine hv_iinc dX12_panicBy_97 rfl (nI_1 i) rfl rfl ?_
        refine hv_goto (tgt := 27) dX12_panicBy_100 (by decide) ?_
        first
          | exact ih (i + 1) E T2 rd (by omega) hE (by rw [← hT2]; exact or_lt128 hT (pow_lt7 (by omega))) nx.symm kk
          | exact ih (i + 1) E T rd (by omega) hE hT nx.symm kk
      · refine hv_aload_n dX12_panicBy_50 rfl ?_
        refine hv_getr dX12_panicBy_51 fl_X12_61 (by first | rfl | assumption) rfl (by first | rfl | assumption) ?_
        refine hv_bipush (v := 7) dX12_panicBy_54 (by decide) ?_
        refine hv_aload_n dX12_panicBy_56 rfl ?_
        refine hv_geti dX12_panicBy_57 fl_X12_233 (by first | rfl | assumption) rfl ?_
        refine hv_imul dX12_panicBy_60 ?_
        refine hv_iload dX12_panicBy_61 rfl ?_
        refine hv_iadd dX12_panicBy_63 ?_
        refine hv_iald dX12_panicBy_64 (by first | rfl | assumption) (j := 7 * L + i) ix (by omega) (by first | decide | assumption) ?_
        refine hv_iload_n dX12_panicBy_65 rfl ?_
        rw [p1]
        refine hv_iand dX12_panicBy_66 ?_
        rw [b_and (by omega) (by omega)]
        refine hv_cs1 (d_bits (and_lt128 p2)) dX12_panicBy_67 ml_X12_394 mk_X12_bits rfl rfl rfl ?_
        rintro _ _ _ _ ⟨rfl, rfl, rfl, rfl⟩
        refine hv_aload_n dX12_panicBy_70 rfl ?_
        refine hv_getr dX12_panicBy_71 fl_X12_58 (by first | rfl | assumption) rfl (by first | rfl | assumption) ?_
        refine hv_bipush (v := 7) dX12_panicBy_74 (by decide) ?_
        refine hv_aload_n dX12_panicBy_76 rfl ?_
        refine hv_geti dX12_panicBy_77 fl_X12_233 (by first | rfl | assumption) rfl ?_
        refine hv_imul dX12_panicBy_80 ?_
        refine hv_iload dX12_panicBy_81 rfl ?_
        refine hv_iadd dX12_panicBy_83 ?_
        refine hv_iald dX12_panicBy_84 (by first | rfl | assumption) (j := 7 * L + i) ix (by omega) (by first | decide | assumption) ?_
        rw [p3]
        refine hv_icmp_lt (tgt := 97) dX12_panicBy_85 (by decide) (fun c_85 => ?_) (fun c_85 => ?_)
        · rw [if_neg (fun qq => nI_nlt qq.2 (by have := pop7_le (hd i &&& E); omega) c_85)] at nx
          refine hv_iinc dX12_panicBy_97 rfl (nI_1 i) rfl rfl ?_
          refine hv_goto (tgt := 27) dX12_panicBy_100 (by decide) ?_
          first
            | exact ih (i + 1) E T2 rd (by omega) hE (by rw [← hT2]; exact or_lt128 hT (pow_lt7 (by omega))) nx.symm kk
            | exact ih (i + 1) E T rd (by omega) hE hT nx.symm kk
        · rw [if_pos ⟨bI_0 c_47, (nI_leI (by omega) (by have := pop7_le (hd i &&& E); omega)).mp (Int32.not_lt.mp c_85)⟩] at nx
          refine hv_iload dX12_panicBy_88 rfl ?_
          refine hv_iconst (v := 1) dX12_panicBy_90 (by decide) ?_
          refine hv_iload dX12_panicBy_91 rfl ?_
          refine hv_ishl dX12_panicBy_93 ?_
          refine hv_ior dX12_panicBy_94 ?_
          rw [hor]
          obtain ⟨T2, hT2⟩ : ∃ T2, T ||| 2 ^ i = T2 := ⟨_, rfl⟩
          rw [hT2] at nx
          rw [hT2]
          refine hv_istore dX12_panicBy_95 rfl rfl ?_
          refine hv_iinc dX12_panicBy_97 rfl (nI_1 i) rfl rfl ?_
          refine hv_goto (tgt := 27) dX12_panicBy_100 (by decide) ?_
          first
            | exact ih (i + 1) E T2 rd (by omega) hE (by rw [← hT2]; exact or_lt128 hT (pow_lt7 (by omega))) nx.symm kk
            | exact ih (i + 1) E T rd (by omega) hE hT nx.symm kk
  have outer : ∀ k rd E (l5 l6 : Option Value), rd + k = h → E < 128 → E = itN (fun E => sRnd hd fe cm E h) (2 ^ b) rd → hV G (m_X12_panicBy Q) 0 0 shp 7 [some (.ref (hgA G 64)), some (.int (nI b)), some (.int (nI cm)), some (.int (nI E)), some (.int (nI rd)), l5, l6] [] (rr 38 51 x y) σ τ := by
    intro k
    induction k with
    | zero =>
      intro rd E l5 l6 hi hE he
      obtain rfl : rd = h := by omega
      refine hv_iload dX12_panicBy_7 rfl ?_
      refine hv_aload_n dX12_panicBy_9 rfl ?_
      refine hv_getr dX12_panicBy_10 fl_X12_46 (by first | rfl | assumption) rfl (by first | rfl | assumption) ?_
      refine hv_aload_n dX12_panicBy_13 rfl ?_
      refine hv_geti dX12_panicBy_14 fl_X12_233 (by first | rfl | assumption) rfl ?_
      refine hv_iald dX12_panicBy_17 (by first | rfl | assumption) (j := L) h18 (by omega) (by first | decide | assumption) ?_
      refine hv_icmp_ge (tgt := 112) dX12_panicBy_18 (by decide) (fun c_18 => ?_) (fun c_18 => absurd ((by rw [h74]; exact nI_le (Nat.le_refl _) (by omega))) c_18)
      refine hv_iload_n dX12_panicBy_112 rfl ?_
      refine hv_iret dX12_panicBy_113 rfl ?_
      rw [← hQ, ← he]; exact ⟨rfl, rfl, rfl, rfl⟩
    | succ k ih =>
      intro rd E l5 l6 hi hE he
      refine hv_iload dX12_panicBy_7 rfl ?_
      refine hv_aload_n dX12_panicBy_9 rfl ?_
      refine hv_getr dX12_panicBy_10 fl_X12_46 (by first | rfl | assumption) rfl (by first | rfl | assumption) ?_
      refine hv_aload_n dX12_panicBy_13 rfl ?_
      refine hv_geti dX12_panicBy_14 fl_X12_233 (by first | rfl | assumption) rfl ?_
      refine hv_iald dX12_panicBy_17 (by first | rfl | assumption) (j := L) h18 (by omega) (by first | decide | assumption) ?_
      refine hv_icmp_ge (tgt := 112) dX12_panicBy_18 (by decide) (fun c_18 => absurd c_18 ((by rw [h74]; exact nI_ge (by omega) (by omega)))) (fun c_18 => ?_)
      refine hv_iload_n dX12_panicBy_21 rfl ?_
      refine hv_istore dX12_panicBy_22 rfl rfl ?_
      refine hv_iconst (v := 0) dX12_panicBy_24 (by decide) ?_
      refine hv_istore dX12_panicBy_25 rfl rfl ?_
      refine inner h 0 E E rd (by omega) hE hE rfl ?_
      intro T' hT' he'
      refine hv_iload dX12_panicBy_103 rfl ?_
      refine hv_istore_n dX12_panicBy_105 rfl rfl ?_
      refine hv_iinc dX12_panicBy_106 rfl (nI_1 rd) rfl rfl ?_
      refine hv_goto (tgt := 7) dX12_panicBy_109 (by decide) ?_
      exact ih (rd + 1) T' _ _ (by omega) hT' (by rw [itN, ← he]; exact he')
  refine hv_iconst (v := 1) dX12_panicBy_0 (by decide) ?_
  refine hv_iload_n dX12_panicBy_1 rfl ?_
  refine hv_ishl dX12_panicBy_2 ?_
  rw [b_shl (by omega)]
  refine hv_istore_n dX12_panicBy_3 rfl rfl ?_
  refine hv_iconst (v := 0) dX12_panicBy_4 (by decide) ?_
  refine hv_istore dX12_panicBy_5 rfl rfl ?_
  exact outer h 0 (2 ^ b) none none (by omega) (pow_lt7 (by omega)) rfl
end S50

