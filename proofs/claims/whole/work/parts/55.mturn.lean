abbrev m_X12_mostOf (Q : hPo) : hMe := (hrm 0, 0, 0, yX12_mostOf, cX12_mostOf, 4, (some FieldType.int), shp, none, Q)
abbrev m_X12_fewestFrom (Q : hPo) : hMe := (hrm 1, 0, 0, yX12_fewestFrom, cX12_fewestFrom, 7, (some FieldType.int), shp, none, Q)
abbrev m_X12_everybody (Q : hPo) : hMe := (hrm 0, 0, 0, yX12_everybody, cX12_everybody, 1, (some FieldType.int), shp, none, Q)
abbrev m_X12_allies (Q : hPo) : hMe := (hrm 6, 0, 0, yX12_allies, cX12_allies, 2, (some FieldType.int), shp, none, Q)
abbrev m_X12_motion (Q : hPo) : hMe := (hrm 6, 0, 0, yX12_motion, cX12_motion, 6, (some FieldType.int), shp, none, Q)
abbrev m_X12_takeover (Q : hPo) : hMe := (hrm 3, 0, 0, yX12_takeover, cX12_takeover, 10, (some FieldType.int), shp, none, Q)
theorem pow_le7 {h : Nat} (q : h ≤ 7) : 2 ^ h ≤ 128 := Nat.pow_le_pow_right (n := 2) (by decide) q
theorem fSm_h {f : hF} {m h : Nat} (hm : m < 2 ^ h) : ∀ n, h ≤ n → fSm f m n = fSm f m h
  | 0, q => by obtain rfl : h = 0 := by omega
               rfl
  | n + 1, q => by
    by_cases e : h = n + 1
    · rw [e]
    · have hp : 2 ^ h ≤ 2 ^ n := Nat.pow_le_pow_right (by decide) (by omega)
      rw [fSm, fSm_h hm n (by omega), if_neg (by rw [Nat.testBit_lt_two_pow (Nat.lt_of_lt_of_le hm hp)]; decide), Int32.add_zero]
theorem fSm_congr {f g : hF} {m : Nat} : ∀ n, (∀ a, a < n → f a = g a) → fSm f m n = fSm g m n
  | 0, _ => rfl
  | n + 1, q => by rw [fSm, fSm, fSm_congr n (fun a ha => q a (by omega)), q n (by omega)]
theorem fSm_or0 {f : hF} {m i : Nat} : ∀ n, n ≤ i → fSm f (m ||| 2 ^ i) n = fSm f m n
  | 0, _ => rfl
  | n + 1, q => by
    rw [fSm, fSm, fSm_or0 n (by omega), or_tb, show decide (i = n) = false from decide_eq_false (by omega), Bool.or_false]
theorem fSm_or {f : hF} {m i : Nat} (hb : m.testBit i = false) : ∀ n, i < n → fSm f (m ||| 2 ^ i) n = fSm f m n + f i
  | 0, q => absurd q (by omega)
  | n + 1, q => by
    by_cases e : i = n
    · subst e
      rw [fSm, fSm, fSm_or0 i (Nat.le_refl _), or_tb, hb, show decide (i = i) = true from decide_eq_true rfl]
      simp
    · rw [fSm, fSm, fSm_or hb n (by omega), or_tb, show decide (i = n) = false from decide_eq_false e, Bool.or_false, Int32.add_assoc, Int32.add_assoc, Int32.add_comm (f i)]
theorem or_self_bit {m i : Nat} (hb : m.testBit i = true) : m ||| 2 ^ i = m := by
  apply Nat.eq_of_testBit_eq
  intro j
  rw [or_tb]
  by_cases e : i = j
  · subst e; rw [hb]; rfl
  · rw [decide_eq_false e, Bool.or_false]
theorem or_lt_pow {m i h : Nat} (hm : m < 2 ^ h) (hi : i < h) : m ||| 2 ^ i < 2 ^ h := Nat.or_lt_two_pow hm (Nat.pow_lt_pow_right (by decide) hi)
theorem fTurn_congr {f g : hF} {all : Int32} {i h : Nat} (hh : h ≤ 7) (hi : i < h) (q : ∀ a, a < h → f a = g a) : ∀ n, n ≤ 2 ^ h → fTurn f all i n = fTurn g all i n
  | 0, _ => rfl
  | n + 1, hn => by
    rw [fTurn, fTurn, fTurn_congr hh hi q n (by omega), fSm_h (f := f) (show n < 2 ^ h by omega) 7 hh, fSm_h (f := g) (show n < 2 ^ h by omega) 7 hh, fSm_h (f := f) (or_lt_pow (show n < 2 ^ h by omega) hi) 7 hh, fSm_h (f := g) (or_lt_pow (show n < 2 ^ h by omega) hi) 7 hh, fSm_congr h q, fSm_congr (m := n ||| 2 ^ i) h q]
theorem fTurn_le {f : hF} {all : Int32} {i : Nat} : ∀ n, fTurn f all i n ≤ n
  | 0 => Nat.le_refl _
  | n + 1 => by
    have := fTurn_le (f := f) (all := all) (i := i) n
    rw [fTurn]
    split <;> omega
/-- the reference's way of saying it -/
theorem fTurn_s {f : hF} {all : Int32} {i h n : Nat} (hh : h ≤ 7) (hi : i < h) (hn : n < 2 ^ h) : fTurn f all i (n + 1) = fTurn f all i n + (if n.testBit i = false ∧ 2 * fSm f n h ≤ all ∧ all < 2 * (fSm f n h + f i) then 1 else 0) := by
  rw [fTurn, fSm_h hn 7 hh]
  cases hb : n.testBit i with
  | true =>
    rw [or_self_bit hb, fSm_h hn 7 hh, if_neg (fun q => Int32.not_lt.mpr q.1 q.2), if_neg (fun q => absurd q.1 (by decide))]
  | false =>
    rw [fSm_h (or_lt_pow hn hi) 7 hh, fSm_or hb h hi]
    congr 1
    by_cases c : 2 * fSm f n h ≤ all ∧ all < 2 * (fSm f n h + f i)
    · rw [if_pos c, if_pos ⟨rfl, c⟩]
    · rw [if_neg c, if_neg (fun q => c q.2)]
theorem fGcd_gcd : ∀ (k a b : Nat), a < 2 ^ 31 → b < 2 ^ 31 → b < 2 ^ k → fGcd (2 * k) (nI a) (nI b) = nI (Nat.gcd a b)
  | 0, a, b, _, _, hb => by
    obtain rfl : b = 0 := by omega
    rw [Nat.gcd_zero_right]; rfl
  | k + 1, a, b, ha, hb, hk => by
    rw [show 2 * (k + 1) = 2 * k + 1 + 1 by omega, fGcd]
    by_cases c : b = 0
    · subst c; rw [if_pos (by decide), Nat.gcd_zero_right]
    · rw [if_neg (nI_nle (by omega) hb), pk_rem ha (by omega) hb, fGcd]
      have hr : a % b < b := Nat.mod_lt _ (by omega)
      by_cases c2 : a % b = 0
      · rw [c2, if_pos (by decide), Nat.gcd_comm, Nat.gcd_rec b a, c2, Nat.gcd_zero_left]
      · rw [if_neg (nI_nle (by omega) (by omega)), pk_rem hb (by omega) (by omega)]
        have hr2 : b % (a % b) < a % b := Nat.mod_lt _ (by omega)
        have hd := Nat.div_add_mod b (a % b)
        have hd1 : 1 ≤ b / (a % b) := (Nat.one_le_div_iff (by omega)).mpr (by omega)
        have hd2 : a % b ≤ (a % b) * (b / (a % b)) := Nat.le_mul_of_pos_right _ hd1
        rw [Nat.pow_succ] at hk
        rw [fGcd_gcd k (a % b) (b % (a % b)) (by omega) (by omega) (by omega), Nat.gcd_comm (a % b), ← Nat.gcd_rec (a % b) b, Nat.gcd_comm a b, Nat.gcd_rec b a]
def nS (t : Nat → Nat) : Nat → Nat
  | 0 => 0
  | n + 1 => nS t n + t n
theorem nS_sum {T : hF} {t : Nat → Nat} : ∀ n, (∀ i, i < n → T i = nI (t i)) → hsum T n = nI (nS t n)
  | 0, _ => rfl
  | n + 1, q => by rw [hsum, nS_sum n (fun i hi => q i (by omega)), q n (by omega), nI_add]; rfl
theorem nS_ge {t : Nat → Nat} {i : Nat} : ∀ n, i < n → t i ≤ nS t n
  | 0, q => absurd q (by omega)
  | n + 1, q => by
    rw [nS]
    by_cases e : i = n
    · subst e; omega
    · have := nS_ge (t := t) n (show i < n by omega); omega
theorem nS_le {t : Nat → Nat} {b : Nat} (q : ∀ i, t i ≤ b) : ∀ n, nS t n ≤ n * b
  | 0 => by simp [nS]
  | n + 1 => by
    have h1 := nS_le q n
    have h2 := q n
    rw [nS, Nat.succ_mul]; omega
theorem fPow_gcd {u w : Nat} {bl : Int32} (huw : u ≤ w) (hw : w < 2 ^ 31) : fPow (nI u) (nI w) bl = if w = 0 then (if bl = 0 then 0 else 1) else (if bl = 0 then nI u else nI w) / nI (Nat.gcd u w) := by
  have e1 : hmax (nI u) (nI w) = nI w := by
    unfold hmax
    by_cases c : u < w
    · rw [if_pos (nI_lt c hw)]
    · rw [if_neg (nI_nlt (by omega) (by omega)), show u = w by omega]
  have e2 : hmin (nI u) (nI w) = nI u := by
    unfold hmin
    rw [if_neg (show ¬ nI u > nI w from nI_nlt huw hw)]
  have e3 : fGcd 64 (nI w) (nI u) = nI (Nat.gcd u w) := by
    rw [show (64 : Nat) = 2 * 32 from rfl, fGcd_gcd 32 w u hw (by omega) (by omega), Nat.gcd_comm]
  unfold fPow
  rw [e1, e2, e3]
  by_cases c : w = 0
  · have hu : u = 0 := by omega
    subst hu; subst c
    rw [if_pos rfl, if_neg (by decide)]
  · have hg : 0 < Nat.gcd u w := Nat.gcd_pos_of_pos_right _ (by omega)
    have hg2 : Nat.gcd u w ≤ w := Nat.gcd_le_right _ (by omega)
    rw [if_neg c, if_pos (show (1 : Int32) ≤ nI (Nat.gcd u w) from nI_le (a := 1) hg (by omega))]
theorem nI_gt2 {n : Nat} (hn : n < 2 ^ 31) : ¬ nI n ≤ -2 := fun q => nI_pos hn (Int32.lt_of_le_of_lt q (by decide))
section S55
variable {G : hGl} {σ : hS} {τ : hT} {x y : Option Nat}
theorem d_turnsOf {L h a : Nat} (hL : σ 64 18 = nI L) (hL2 : L < 2) (h74 : σ 74 L = nI h) (k2 : h ≤ 7) (ha : a < h) : hCal G (m_X12_turnsOf (hEq (some (.int (nI (fTurn (σ 104) (σ 64 60) a (2 ^ h))))) (rr 38 51 x y) σ τ)) [.ref (hgA G 64), .int (nI a)] shp (rr 38 51 x y) σ τ := by
  have hp := pow_le7 k2
  refine hv_enter pn_X12 rfl ?_
  have inner : ∀ Q n m, m < 2 ^ h → ∀ k o s, o + k = h → s = fSm (σ 104) m o → (hV G (m_X12_turnsOf Q) 0 0 shp 79 [some (.ref (hgA G 64)), some (.int (nI a)), some (.int (nI n)), some (.int (nI m)), some (.int (fSm (σ 104) m h)), some (.int (nI h))] [] (rr 38 51 x y) σ τ) → hV G (m_X12_turnsOf Q) 0 0 shp 37 [some (.ref (hgA G 64)), some (.int (nI a)), some (.int (nI n)), some (.int (nI m)), some (.int s), some (.int (nI o))] [] (rr 38 51 x y) σ τ := by
    intro Q n m hm k
    induction k with
    | zero =>
      intro o s hi hs kk
      obtain rfl : o = h := by omega
      refine hv_iload dX12_turnsOf_37 rfl ?_
      refine hv_aload_n dX12_turnsOf_39 rfl ?_
      refine hv_getr dX12_turnsOf_40 fl_X12_46 (by first | rfl | assumption) rfl (by first | rfl | assumption) ?_
      refine hv_aload_n dX12_turnsOf_43 rfl ?_
      refine hv_geti dX12_turnsOf_44 fl_X12_233 (by first | rfl | assumption) rfl ?_
      refine hv_iald dX12_turnsOf_47 (by first | rfl | assumption) (j := L) hL (by omega) (by first | decide | assumption) ?_
      refine hv_icmp_ge (tgt := 79) dX12_turnsOf_48 (by decide) (fun c_48 => ?_) (fun c_48 => absurd ((by rw [h74]; exact nI_le (Nat.le_refl _) (by omega))) c_48)
      rw [hs]; exact kk
    | succ k ih =>
      intro o s hi hs kk
      have nx : fSm (σ 104) m (o + 1) = s + (if m.testBit o = true then σ 104 o else 0) := by rw [fSm, ← hs]
      refine hv_iload dX12_turnsOf_37 rfl ?_
      refine hv_aload_n dX12_turnsOf_39 rfl ?_
      refine hv_getr dX12_turnsOf_40 fl_X12_46 (by first | rfl | assumption) rfl (by first | rfl | assumption) ?_
      refine hv_aload_n dX12_turnsOf_43 rfl ?_
      refine hv_geti dX12_turnsOf_44 fl_X12_233 (by first | rfl | assumption) rfl ?_
      refine hv_iald dX12_turnsOf_47 (by first | rfl | assumption) (j := L) hL (by omega) (by first | decide | assumption) ?_
      refine hv_icmp_ge (tgt := 79) dX12_turnsOf_48 (by decide) (fun c_48 => absurd c_48 ((by rw [h74]; exact nI_ge (by omega) (by omega)))) (fun c_48 => ?_)
      refine hv_iload_n dX12_turnsOf_51 rfl ?_
      refine hv_iload dX12_turnsOf_52 rfl ?_
      refine hv_ishr dX12_turnsOf_54 ?_
      refine hv_iconst (v := 1) dX12_turnsOf_55 (by decide) ?_
      refine hv_iand dX12_turnsOf_56 ?_
      refine hv_iconst (v := 1) dX12_turnsOf_57 (by decide) ?_
      rw [b_bit (by omega) (by omega)]
      refine hv_icmp_ne (tgt := 73) dX12_turnsOf_58 (by decide) (fun c_58 => ?_) (fun c_58 => ?_)
      · rw [if_neg (fun qq => c_58 (by rw [qq]; rfl)), Int32.add_zero] at nx
        refine hv_iinc dX12_turnsOf_73 rfl (nI_1 o) rfl rfl ?_
        refine hv_goto (tgt := 37) dX12_turnsOf_76 (by decide) ?_
        first
          | exact ih (o + 1) _ (by omega) nx.symm kk
          | exact ih (o + 1) s (by omega) nx.symm kk
      · rw [if_pos (by cases hq : m.testBit o with | true => rfl | false => rw [hq] at c_58; exact absurd c_58 (by decide))] at nx
        refine hv_iload dX12_turnsOf_61 rfl ?_
        refine hv_aload_n dX12_turnsOf_63 rfl ?_
        refine hv_getr dX12_turnsOf_64 fl_X12_137 (by first | rfl | assumption) rfl (by first | rfl | assumption) ?_
        refine hv_iload dX12_turnsOf_67 rfl ?_
        refine hv_iald dX12_turnsOf_69 (by first | rfl | assumption) rfl (by first | assumption | omega) (by first | decide | assumption) ?_
        refine hv_iadd dX12_turnsOf_70 ?_
        refine hv_istore dX12_turnsOf_71 rfl rfl ?_
        refine hv_iinc dX12_turnsOf_73 rfl (nI_1 o) rfl rfl ?_
        refine hv_goto (tgt := 37) dX12_turnsOf_76 (by decide) ?_
        first
          | exact ih (o + 1) _ (by omega) nx.symm kk
          | exact ih (o + 1) s (by omega) nx.symm kk
  have outer : ∀ k m n (l4 l5 : Option Value), m + k = 2 ^ h → n = fTurn (σ 104) (σ 64 60) a m → hV G (m_X12_turnsOf (hEq (some (.int (nI (fTurn (σ 104) (σ 64 60) a (2 ^ h))))) (rr 38 51 x y) σ τ)) 0 0 shp 4 [some (.ref (hgA G 64)), some (.int (nI a)), some (.int (nI n)), some (.int (nI m)), l4, l5] [] (rr 38 51 x y) σ τ := by
    intro k
    induction k with
    | zero =>
      intro m n l4 l5 hi hn
      obtain rfl : m = 2 ^ h := by omega
      refine hv_iload_n dX12_turnsOf_4 rfl ?_
      refine hv_iconst (v := 1) dX12_turnsOf_5 (by decide) ?_
      refine hv_aload_n dX12_turnsOf_6 rfl ?_
      refine hv_getr dX12_turnsOf_7 fl_X12_46 (by first | rfl | assumption) rfl (by first | rfl | assumption) ?_
      refine hv_aload_n dX12_turnsOf_10 rfl ?_
      refine hv_geti dX12_turnsOf_11 fl_X12_233 (by first | rfl | assumption) rfl ?_
      refine hv_iald dX12_turnsOf_14 (by first | rfl | assumption) (j := L) hL (by omega) (by first | decide | assumption) ?_
      rw [h74]
      refine hv_ishl dX12_turnsOf_15 ?_
      rw [b_shl (by omega)]
      refine hv_icmp_ge (tgt := 117) dX12_turnsOf_16 (by decide) (fun c_16 => ?_) (fun c_16 => absurd ((nI_le (Nat.le_refl _) (by omega))) c_16)
      refine hv_iload_n dX12_turnsOf_117 rfl ?_
      refine hv_iret dX12_turnsOf_118 rfl ?_
      rw [hn]; exact ⟨rfl, rfl, rfl, rfl⟩
    | succ k ih =>
      intro m n l4 l5 hi hn
      have nx := fTurn_s (f := σ 104) (all := σ 64 60) k2 ha (show m < 2 ^ h by omega)
      rw [← hn] at nx
      refine hv_iload_n dX12_turnsOf_4 rfl ?_
      refine hv_iconst (v := 1) dX12_turnsOf_5 (by decide) ?_
      refine hv_aload_n dX12_turnsOf_6 rfl ?_
      refine hv_getr dX12_turnsOf_7 fl_X12_46 (by first | rfl | assumption) rfl (by first | rfl | assumption) ?_
      refine hv_aload_n dX12_turnsOf_10 rfl ?_
      refine hv_geti dX12_turnsOf_11 fl_X12_233 (by first | rfl | assumption) rfl ?_
      refine hv_iald dX12_turnsOf_14 (by first | rfl | assumption) (j := L) hL (by omega) (by first | decide | assumption) ?_
      rw [h74]
      refine hv_ishl dX12_turnsOf_15 ?_
      rw [b_shl (by omega)]
      refine hv_icmp_ge (tgt := 117) dX12_turnsOf_16 (by decide) (fun c_16 => absurd c_16 ((nI_ge (by omega) (by omega)))) (fun c_16 => ?_)
      refine hv_iload_n dX12_turnsOf_19 rfl ?_
      refine hv_iload_n dX12_turnsOf_20 rfl ?_
      refine hv_ishr dX12_turnsOf_21 ?_
      refine hv_iconst (v := 1) dX12_turnsOf_22 (by decide) ?_
      refine hv_iand dX12_turnsOf_23 ?_
      refine hv_iconst (v := 1) dX12_turnsOf_24 (by decide) ?_
      rw [b_bit (by omega) (by omega)]
      refine hv_icmp_ne (tgt := 31) dX12_turnsOf_25 (by decide) (fun c_25 => ?_) (fun c_25 => ?_)
      · have hbf : m.testBit a = false := by cases hq : m.testBit a with | false => rfl | true => rw [hq] at c_25; exact absurd rfl c_25
        refine hv_iconst (v := 0) dX12_turnsOf_31 (by decide) ?_
        refine hv_istore dX12_turnsOf_32 rfl rfl ?_
        refine hv_iconst (v := 0) dX12_turnsOf_34 (by decide) ?_
        refine hv_istore dX12_turnsOf_35 rfl rfl ?_
        refine inner _ _ m (by omega) h 0 0 (by omega) rfl ?_
        refine hv_iconst (v := 2) dX12_turnsOf_79 (by decide) ?_
        refine hv_iload dX12_turnsOf_80 rfl ?_
        refine hv_imul dX12_turnsOf_82 ?_
        refine hv_aload_n dX12_turnsOf_83 rfl ?_
        refine hv_geti dX12_turnsOf_84 fl_X12_407 (by first | rfl | assumption) rfl ?_
        refine hv_icmp_gt (tgt := 111) dX12_turnsOf_87 (by decide) (fun c_87 => ?_) (fun c_87 => ?_)
        · rw [if_neg (fun qq => Int32.not_lt.mpr qq.2.1 c_87), Nat.add_zero] at nx
          refine hv_iinc dX12_turnsOf_111 rfl (nI_1 m) rfl rfl ?_
          refine hv_goto (tgt := 4) dX12_turnsOf_114 (by decide) ?_
          first
            | exact ih (m + 1) (n + 1) _ _ (by omega) nx.symm
            | exact ih (m + 1) n _ _ (by omega) nx.symm
        · refine hv_iconst (v := 2) dX12_turnsOf_90 (by decide) ?_
          refine hv_iload dX12_turnsOf_91 rfl ?_
          refine hv_aload_n dX12_turnsOf_93 rfl ?_
          refine hv_getr dX12_turnsOf_94 fl_X12_137 (by first | rfl | assumption) rfl (by first | rfl | assumption) ?_
          refine hv_iload_n dX12_turnsOf_97 rfl ?_
          refine hv_iald dX12_turnsOf_98 (by first | rfl | assumption) rfl (by first | assumption | omega) (by first | decide | assumption) ?_
          refine hv_iadd dX12_turnsOf_99 ?_
          refine hv_imul dX12_turnsOf_100 ?_
          refine hv_aload_n dX12_turnsOf_101 rfl ?_
          refine hv_geti dX12_turnsOf_102 fl_X12_407 (by first | rfl | assumption) rfl ?_
          refine hv_icmp_le (tgt := 111) dX12_turnsOf_105 (by decide) (fun c_105 => ?_) (fun c_105 => ?_)
          · rw [if_neg (fun qq => Int32.not_lt.mpr c_105 qq.2.2), Nat.add_zero] at nx
            refine hv_iinc dX12_turnsOf_111 rfl (nI_1 m) rfl rfl ?_
            refine hv_goto (tgt := 4) dX12_turnsOf_114 (by decide) ?_
            first
              | exact ih (m + 1) (n + 1) _ _ (by omega) nx.symm
              | exact ih (m + 1) n _ _ (by omega) nx.symm
          · rw [if_pos ⟨hbf, Int32.not_lt.mp c_87, Int32.not_le.mp c_105⟩] at nx
            refine hv_iinc dX12_turnsOf_108 rfl (nI_1 n) rfl rfl ?_
            refine hv_iinc dX12_turnsOf_111 rfl (nI_1 m) rfl rfl ?_
            refine hv_goto (tgt := 4) dX12_turnsOf_114 (by decide) ?_
            first
              | exact ih (m + 1) (n + 1) _ _ (by omega) nx.symm
              | exact ih (m + 1) n _ _ (by omega) nx.symm
      · rw [if_neg (fun qq => by rw [qq.1] at c_25; exact absurd c_25 (by decide)), Nat.add_zero] at nx
        refine hv_goto (tgt := 111) dX12_turnsOf_28 (by decide) ?_
        refine hv_iinc dX12_turnsOf_111 rfl (nI_1 m) rfl rfl ?_
        refine hv_goto (tgt := 4) dX12_turnsOf_114 (by decide) ?_
        exact ih (m + 1) n _ _ (by omega) nx.symm
  refine hv_iconst (v := 0) dX12_turnsOf_0 (by decide) ?_
  refine hv_istore_n dX12_turnsOf_1 rfl rfl ?_
  refine hv_iconst (v := 0) dX12_turnsOf_2 (by decide) ?_
  refine hv_istore_n dX12_turnsOf_3 rfl rfl ?_
  exact outer (2 ^ h) 0 0 none none (by omega) rfl
theorem d_strongest {L h : Nat} {LF : Nat → hF → Int32} {V T : hF} {pr : Nat → Option Nat} {w : Int32} (ok : okR σ L h LF) (hvv : V = fVotes (twM σ L h LF) (dyM σ 98) (hsum (dF (dyM σ 98)) h)) (hx : okXM σ 98 h pr) (hT : ∀ i, i < h → T i = nI (fTurn (fHad V pr h) (hsum V h) i (2 ^ h))) : hCal G (m_X12_strongest (hRq (if ¬ (w = 0 ∨ w = 1) then -1 else if h = 0 then -2 else if w = 0 then nI (amax T h) else T (amax T h)) x y σ τ)) [.ref (hgA G 64), .int w] shp (rr 38 51 x y) σ τ := by
  have k2 := ok.1.2.2.2.1
  have hL2 := ok.1.2.1
  have hp := pow_le7 k2
  refine hv_enter pn_X12 rfl ?_
  have loop : ∀ (σ1 : hS) res, (∀ k, k ∉ xRq → σ1 k = σ k) → k64 σ σ1 → (∀ a, a < h → σ1 104 a = fHad V pr h a) → σ1 64 60 = hsum V h → (res = if h = 0 then -2 else if w = 0 then nI (amax T h) else T (amax T h)) → ∀ k i be mo (l5 : Option Value), i + k = h → ((i = 0 ∧ be = -2 ∧ mo = -2) ∨ (1 ≤ i ∧ be = nI (amax T i) ∧ mo = T (amax T i))) → hV G (m_X12_strongest (hRq res x y σ τ)) 0 0 shp 24 [some (.ref (hgA G 64)), some (.int w), some (.int be), some (.int mo), some (.int (nI i)), l5] [] (rr 38 51 x y) σ1 τ := by
    intro σ1 res q1 q2 q3 q4 hres k
    have eL : σ1 64 18 = nI L := (q2 18 (by decide) (by decide) (by decide)).trans ok.1.1
    have eh : σ1 74 L = nI h := by rw [q1 74 (by decide)]; exact ok.1.2.2.1
    induction k with
    | zero =>
      intro i be mo l5 hi hq
      obtain rfl : i = h := by omega
      refine hv_iload dX12_strongest_24 rfl ?_
      refine hv_aload_n dX12_strongest_26 rfl ?_
      refine hv_getr dX12_strongest_27 fl_X12_46 (by first | rfl | assumption) rfl (by first | rfl | assumption) ?_
      refine hv_aload_n dX12_strongest_30 rfl ?_
      refine hv_geti dX12_strongest_31 fl_X12_233 (by first | rfl | assumption) rfl ?_
      refine hv_iald dX12_strongest_34 (by first | rfl | assumption) (j := L) eL (by omega) (by first | decide | assumption) ?_
      refine hv_icmp_ge (tgt := 67) dX12_strongest_35 (by decide) (fun c_35 => ?_) (fun c_35 => absurd ((by rw [eh]; exact nI_le (Nat.le_refl _) (by omega))) c_35)
      refine hv_iload_n dX12_strongest_67 rfl ?_
      refine hv_if_ne (tgt := 75) dX12_strongest_68 (by decide) (fun c_68 => ?_) (fun c_68 => ?_)
      · refine hv_iload_n dX12_strongest_75 rfl ?_
        refine hv_iret dX12_strongest_76 rfl ?_
        refine ⟨congrArg (fun z => some (Value.int z)) ?_, rfl, rfl, q1, q2⟩
        rw [hres]
        rcases hq with ⟨p1, p2, p3⟩ | ⟨p1, p2, p3⟩
        · rw [if_pos p1]; first | exact p2.symm | exact p3.symm
        · rw [if_neg (by omega)]
          first
          | (rw [if_pos c_68]; exact p2.symm)
          | (rw [if_neg c_68]; exact p3.symm)
      · refine hv_iload_n dX12_strongest_71 rfl ?_
        refine hv_goto (tgt := 76) dX12_strongest_72 (by decide) ?_
        refine hv_iret dX12_strongest_76 rfl ?_
        refine ⟨congrArg (fun z => some (Value.int z)) ?_, rfl, rfl, q1, q2⟩
        rw [hres]
        rcases hq with ⟨p1, p2, p3⟩ | ⟨p1, p2, p3⟩
        · rw [if_pos p1]; first | exact p2.symm | exact p3.symm
        · rw [if_neg (by omega)]
          first
          | (rw [if_pos c_68]; exact p2.symm)
          | (rw [if_neg c_68]; exact p3.symm)
    | succ k ih =>
      intro i be mo l5 hi hq
      have hTi : nI (fTurn (σ1 104) (σ1 64 60) i (2 ^ h)) = T i := by rw [hT i (by omega), q4, fTurn_congr k2 (show i < h by omega) q3 _ (Nat.le_refl _)]
      have hT2 : ¬ T i ≤ -2 := by
        have hl := fTurn_le (f := fHad V pr h) (all := hsum V h) (i := i) (2 ^ h)
        rw [hT i (by omega)]; exact nI_gt2 (by omega)
      refine hv_iload dX12_strongest_24 rfl ?_
      refine hv_aload_n dX12_strongest_26 rfl ?_
      refine hv_getr dX12_strongest_27 fl_X12_46 (by first | rfl | assumption) rfl (by first | rfl | assumption) ?_
      refine hv_aload_n dX12_strongest_30 rfl ?_
      refine hv_geti dX12_strongest_31 fl_X12_233 (by first | rfl | assumption) rfl ?_
      refine hv_iald dX12_strongest_34 (by first | rfl | assumption) (j := L) eL (by omega) (by first | decide | assumption) ?_
      refine hv_icmp_ge (tgt := 67) dX12_strongest_35 (by decide) (fun c_35 => absurd c_35 ((by rw [eh]; exact nI_ge (by omega) (by omega)))) (fun c_35 => ?_)
      refine hv_aload_n dX12_strongest_38 rfl ?_
      refine hv_iload dX12_strongest_39 rfl ?_
      refine hv_cv1 (d_turnsOf eL (by omega) eh k2 (by omega)) dX12_strongest_41 ml_X12_413 mk_X12_turnsOf (by first | rfl | assumption) rfl rfl rfl rfl rfl ?_
      rintro _ _ _ _ ⟨rfl, rfl, rfl, rfl⟩
      rw [hTi]
      refine hv_istore dX12_strongest_44 rfl rfl ?_
      refine hv_iload dX12_strongest_46 rfl ?_
      refine hv_iload_n dX12_strongest_48 rfl ?_
      refine hv_icmp_gt (tgt := 55) dX12_strongest_49 (by decide) (fun c_49 => ?_) (fun c_49 => ?_)
      · refine hv_iload dX12_strongest_55 rfl ?_
        refine hv_istore_n dX12_strongest_57 rfl rfl ?_
        refine hv_iload dX12_strongest_58 rfl ?_
        refine hv_istore_n dX12_strongest_60 rfl rfl ?_
        refine hv_iinc dX12_strongest_61 rfl (nI_1 i) rfl rfl ?_
        refine hv_goto (tgt := 24) dX12_strongest_64 (by decide) ?_
        first
          | (refine ih (i + 1) (nI i) (T i) _ (by omega) (Or.inr ⟨by omega, ?_⟩)
             have cn : mo < T i := c_49
             rw [amax]
             rcases hq with ⟨p1, p2, p3⟩ | ⟨p1, p2, p3⟩
             · subst p1; exact ⟨rfl, rfl⟩
             · rw [if_neg (by omega), if_pos (by rw [← p3]; exact cn)]; exact ⟨rfl, rfl⟩)
          | (refine ih (i + 1) be mo _ (by omega) (Or.inr ⟨by omega, ?_⟩)
             rw [amax]
             have cp : T i ≤ mo := Int32.not_lt.mp c_49
             rcases hq with ⟨p1, p2, p3⟩ | ⟨p1, p2, p3⟩
             · rw [p3] at cp; exact absurd cp hT2
             · rw [if_neg (by omega), if_neg (by rw [← p3]; exact Int32.not_lt.mpr cp)]; exact ⟨p2, p3⟩)
      · refine hv_goto (tgt := 61) dX12_strongest_52 (by decide) ?_
        refine hv_iinc dX12_strongest_61 rfl (nI_1 i) rfl rfl ?_
        refine hv_goto (tgt := 24) dX12_strongest_64 (by decide) ?_
        first
          | (refine ih (i + 1) (nI i) (T i) _ (by omega) (Or.inr ⟨by omega, ?_⟩)
             have cn : mo < T i := c_49
             rw [amax]
             rcases hq with ⟨p1, p2, p3⟩ | ⟨p1, p2, p3⟩
             · subst p1; exact ⟨rfl, rfl⟩
             · rw [if_neg (by omega), if_pos (by rw [← p3]; exact cn)]; exact ⟨rfl, rfl⟩)
          | (refine ih (i + 1) be mo _ (by omega) (Or.inr ⟨by omega, ?_⟩)
             rw [amax]
             have cp : T i ≤ mo := Int32.not_lt.mp c_49
             rcases hq with ⟨p1, p2, p3⟩ | ⟨p1, p2, p3⟩
             · rw [p3] at cp; exact absurd cp hT2
             · rw [if_neg (by omega), if_neg (by rw [← p3]; exact Int32.not_lt.mpr cp)]; exact ⟨p2, p3⟩)
  refine hv_iload_n dX12_strongest_0 rfl ?_
  refine hv_iconst (v := 0) dX12_strongest_1 (by decide) ?_
  refine hv_iconst (v := 1) dX12_strongest_2 (by decide) ?_
  refine hv_cs3 (d_in) dX12_strongest_3 ml_X12_319 mk_X12_in rfl rfl rfl ?_
  rintro _ _ _ _ ⟨rfl, rfl, rfl, rfl⟩
  refine hv_if_ne (tgt := 11) dX12_strongest_6 (by decide) (fun c_6 => ?_) (fun c_6 => ?_)
  · rw [if_neg (fun qq => qq (in01.mp (bI_1 c_6)))]
    refine hv_aload_n dX12_strongest_11 rfl ?_
    refine hv_cv0 (d_fillsVotes ok hvv hx) dX12_strongest_12 ml_X12_410 mk_X12_fillsVotes (by first | rfl | assumption) rfl rfl rfl rfl rfl ?_
    rintro _ _ σ1 _ ⟨rfl, rfl, rfl, q1, q2, q3, q4⟩
    refine hv_bipush (v := -2) dX12_strongest_15 (by decide) ?_
    refine hv_istore_n dX12_strongest_17 rfl rfl ?_
    refine hv_bipush (v := -2) dX12_strongest_18 (by decide) ?_
    refine hv_istore_n dX12_strongest_20 rfl rfl ?_
    refine hv_iconst (v := 0) dX12_strongest_21 (by decide) ?_
    refine hv_istore dX12_strongest_22 rfl rfl ?_
    exact loop σ1 _ q1 q2 q3 q4 rfl h 0 (-2) (-2) none (by omega) (Or.inl ⟨rfl, rfl, rfl⟩)
  · rw [if_pos (in01f (bI_0 c_6))]
    refine hv_iconst (v := -1) dX12_strongest_9 (by decide) ?_
    refine hv_iret dX12_strongest_10 rfl ?_
    exact ⟨rfl, rfl, rfl, fun _ _ => rfl, k64_rf⟩
theorem d_power {L h : Nat} {LF : Nat → hF → Int32} {V T : hF} {pr : Nat → Option Nat} {a bl : Int32} (ok : okR σ L h LF) (hvv : V = fVotes (twM σ L h LF) (dyM σ 98) (hsum (dF (dyM σ 98)) h)) (hx : okXM σ 98 h pr) (hT : ∀ i, i < h → T i = nI (fTurn (fHad V pr h) (hsum V h) i (2 ^ h))) : hCal G (m_X12_power (hRq (hsel h a (-1) (fun i => fPow (T i) (hsum T h) bl)) x y σ τ)) [.ref (hgA G 64), .int a, .int bl] shp (rr 38 51 x y) σ τ := by
  have k2 := ok.1.2.2.2.1
  have hL2 := ok.1.2.1
  have hp := pow_le7 k2
  obtain ⟨t, ht⟩ : ∃ t : Nat → Nat, (fun i => fTurn (fHad V pr h) (hsum V h) i (2 ^ h)) = t := ⟨_, rfl⟩
  have hT2 : ∀ i, i < h → T i = nI (t i) := fun i hi => by rw [← ht]; exact hT i hi
  have ht8 : ∀ i, t i ≤ 128 := fun i => by rw [← ht]; exact Nat.le_trans (fTurn_le _) hp
  have hsu := nS_sum (T := T) (t := t) h hT2
  have hsl := nS_le ht8 h
  have hs3 : h * 128 ≤ 7 * 128 := Nat.mul_le_mul_right _ k2
  refine hv_enter pn_X12 rfl ?_
  have gcdl : ∀ Q ai up (σ1 : hS), nS t h < 2 ^ 31 → (∀ g, g = Nat.gcd up (nS t h) → ∀ l6 l7 : Option Value, hV G (m_X12_power Q) 0 0 shp 87 [some (.ref (hgA G 64)), some (.int ai), some (.int bl), some (.int (nI up)), some (.int (nI (nS t h))), some (.int (nI g)), l6, l7] [] (rr 38 51 x y) σ1 τ) → ∀ b u v (l7 : Option Value), v ≤ b → u < 2 ^ 31 → v < 2 ^ 31 → Nat.gcd u v = Nat.gcd up (nS t h) → hV G (m_X12_power Q) 0 0 shp 64 [some (.ref (hgA G 64)), some (.int ai), some (.int bl), some (.int (nI up)), some (.int (nI (nS t h))), some (.int (nI u)), some (.int (nI v)), l7] [] (rr 38 51 x y) σ1 τ := by
    intro Q ai up σ1 hn kk b
    induction b with
    | zero =>
      intro u v l7 hv hu hv2 hg
      obtain rfl : v = 0 := Nat.le_zero.mp hv
      rw [Nat.gcd_zero_right] at hg
      refine hv_iload dX12_power_64 rfl ?_
      refine hv_if_le (tgt := 87) dX12_power_66 (by decide) (fun c_66 => ?_) (fun c_66 => absurd ((by decide)) c_66)
      exact kk u hg _ _
    | succ b ih =>
      intro u v l7 hv hu hv2 hg
      by_cases hz : v = 0
      · subst hz
        rw [Nat.gcd_zero_right] at hg
        refine hv_iload dX12_power_64 rfl ?_
        refine hv_if_le (tgt := 87) dX12_power_66 (by decide) (fun c_66 => ?_) (fun c_66 => absurd ((by decide)) c_66)
        exact kk u hg _ _
      · have hm : u % v < v := Nat.mod_lt _ (by omega)
        refine hv_iload dX12_power_64 rfl ?_
        refine hv_if_le (tgt := 87) dX12_power_66 (by decide) (fun c_66 => absurd c_66 ((nI_nle (by omega) (by omega)))) (fun c_66 => ?_)
        refine hv_iload dX12_power_69 rfl ?_
        refine hv_iload dX12_power_71 rfl ?_
        refine hv_irem dX12_power_73 (nI_ne0 (by omega) (by omega)) ?_
        rw [pk_rem hu (by omega) hv2]
        refine hv_istore dX12_power_74 rfl rfl ?_
        refine hv_iload dX12_power_76 rfl ?_
        refine hv_istore dX12_power_78 rfl rfl ?_
        refine hv_iload dX12_power_80 rfl ?_
        refine hv_istore dX12_power_82 rfl rfl ?_
        refine hv_goto (tgt := 64) dX12_power_84 (by decide) ?_
        refine ih v (u % v) _ (by omega) hv2 (by omega) ?_
        rw [← hg, Nat.gcd_comm u v, Nat.gcd_rec v u, Nat.gcd_comm]
  have loop : ∀ Q ai up (σ1 : hS), σ1 64 18 = nI L → σ1 74 L = nI h → (∀ a, a < h → σ1 104 a = fHad V pr h a) → σ1 64 60 = hsum V h → hV G (m_X12_power Q) 0 0 shp 57 [some (.ref (hgA G 64)), some (.int ai), some (.int bl), some (.int (nI up)), some (.int (nI (nS t h))), some (.int (nI h)), none, none] [] (rr 38 51 x y) σ1 τ → ∀ k i s, i + k = h → s = nS t i → hV G (m_X12_power Q) 0 0 shp 26 [some (.ref (hgA G 64)), some (.int ai), some (.int bl), some (.int (nI up)), some (.int (nI s)), some (.int (nI i)), none, none] [] (rr 38 51 x y) σ1 τ := by
    intro Q ai up σ1 eL eh q3 q4 kk k
    induction k with
    | zero =>
      intro i s hi hs
      obtain rfl : i = h := by omega
      refine hv_iload dX12_power_26 rfl ?_
      refine hv_aload_n dX12_power_28 rfl ?_
      refine hv_getr dX12_power_29 fl_X12_46 (by first | rfl | assumption) rfl (by first | rfl | assumption) ?_
      refine hv_aload_n dX12_power_32 rfl ?_
      refine hv_geti dX12_power_33 fl_X12_233 (by first | rfl | assumption) rfl ?_
      refine hv_iald dX12_power_36 (by first | rfl | assumption) (j := L) eL (by omega) (by first | decide | assumption) ?_
      refine hv_icmp_ge (tgt := 57) dX12_power_37 (by decide) (fun c_37 => ?_) (fun c_37 => absurd ((by rw [eh]; exact nI_le (Nat.le_refl _) (by omega))) c_37)
      rw [hs]; exact kk
    | succ k ih =>
      intro i s hi hs
      have hTi : fTurn (σ1 104) (σ1 64 60) i (2 ^ h) = t i := by rw [← ht, q4]; exact fTurn_congr k2 (show i < h by omega) q3 _ (Nat.le_refl _)
      refine hv_iload dX12_power_26 rfl ?_
      refine hv_aload_n dX12_power_28 rfl ?_
      refine hv_getr dX12_power_29 fl_X12_46 (by first | rfl | assumption) rfl (by first | rfl | assumption) ?_
      refine hv_aload_n dX12_power_32 rfl ?_
      refine hv_geti dX12_power_33 fl_X12_233 (by first | rfl | assumption) rfl ?_
      refine hv_iald dX12_power_36 (by first | rfl | assumption) (j := L) eL (by omega) (by first | decide | assumption) ?_
      refine hv_icmp_ge (tgt := 57) dX12_power_37 (by decide) (fun c_37 => absurd c_37 ((by rw [eh]; exact nI_ge (by omega) (by omega)))) (fun c_37 => ?_)
      refine hv_iload dX12_power_40 rfl ?_
      refine hv_aload_n dX12_power_42 rfl ?_
      refine hv_iload dX12_power_43 rfl ?_
      refine hv_cv1 (d_turnsOf eL (by omega) eh k2 (by omega)) dX12_power_45 ml_X12_413 mk_X12_turnsOf (by first | rfl | assumption) rfl rfl rfl rfl rfl ?_
      rintro _ _ _ _ ⟨rfl, rfl, rfl, rfl⟩
      rw [hTi]
      refine hv_iadd dX12_power_48 ?_
      rw [nI_add]
      refine hv_istore dX12_power_49 rfl rfl ?_
      refine hv_iinc dX12_power_51 rfl (nI_1 i) rfl rfl ?_
      refine hv_goto (tgt := 26) dX12_power_54 (by decide) ?_
      exact ih (i + 1) _ (by omega) (by rw [nS, hs])
  refine hv_aload_n dX12_power_0 rfl ?_
  refine hv_iload_n dX12_power_1 rfl ?_
  refine hv_cv1 (d_isHouse ok.1.1 ok.1.2.1 ok.1.2.2.1 k2) dX12_power_2 ml_X12_370 mk_X12_isHouse (by first | rfl | assumption) rfl rfl rfl rfl rfl ?_
  rintro _ _ _ _ ⟨rfl, rfl, rfl, rfl⟩
  refine hv_if_ne (tgt := 10) dX12_power_5 (by decide) (fun c_5 => ?_) (fun c_5 => ?_)
  · obtain ⟨ai, hai, rfl⟩ := isH_ix k2 (bI_1 c_5)
    rw [hsel_yes hai k2, hsu, hT2 ai hai]
    refine hv_aload_n dX12_power_10 rfl ?_
    refine hv_cv0 (d_fillsVotes ok hvv hx) dX12_power_11 ml_X12_410 mk_X12_fillsVotes (by first | rfl | assumption) rfl rfl rfl rfl rfl ?_
    rintro _ _ σ1 _ ⟨rfl, rfl, rfl, q1, q2, q3, q4⟩
    have eL : σ1 64 18 = nI L := (q2 18 (by decide) (by decide) (by decide)).trans ok.1.1
    have eh : σ1 74 L = nI h := by rw [q1 74 (by decide)]; exact ok.1.2.2.1
    have hTi : fTurn (σ1 104) (σ1 64 60) ai (2 ^ h) = t ai := by rw [← ht, q4]; exact fTurn_congr k2 hai q3 _ (Nat.le_refl _)
    have hge := nS_ge (t := t) h hai
    refine hv_aload_n dX12_power_14 rfl ?_
    refine hv_iload_n dX12_power_15 rfl ?_
    refine hv_cv1 (d_turnsOf eL (by omega) eh k2 hai) dX12_power_16 ml_X12_413 mk_X12_turnsOf (by first | rfl | assumption) rfl rfl rfl rfl rfl ?_
    rintro _ _ _ _ ⟨rfl, rfl, rfl, rfl⟩
    rw [hTi]
    refine hv_istore_n dX12_power_19 rfl rfl ?_
    refine hv_iconst (v := 0) dX12_power_20 (by decide) ?_
    refine hv_istore dX12_power_21 rfl rfl ?_
    refine hv_iconst (v := 0) dX12_power_23 (by decide) ?_
    refine hv_istore dX12_power_24 rfl rfl ?_
    refine loop _ _ _ σ1 eL eh q3 q4 ?_ h 0 0 (by omega) rfl
    rw [fPow_gcd hge (by omega)]
    refine hv_iload_n dX12_power_57 rfl ?_
    refine hv_istore dX12_power_58 rfl rfl ?_
    refine hv_iload dX12_power_60 rfl ?_
    refine hv_istore dX12_power_62 rfl rfl ?_
    refine gcdl _ _ _ σ1 (by omega) ?_ (nS t h) (t ai) (nS t h) _ (Nat.le_refl _) (by omega) (by omega) rfl
    intro g hg l6 l7
    rw [← hg]
    refine hv_iload dX12_power_87 rfl ?_
    refine hv_if_ne (tgt := 102) dX12_power_89 (by decide) (fun c_89 => ?_) (fun c_89 => ?_)
    · have hnz : ¬ nS t h = 0 := fun qq => c_89 (by rw [qq]; rfl)
      have hg0 : 0 < g := by rw [hg]; exact Nat.gcd_pos_of_pos_right _ (by omega)
      have hg1 : g ≤ nS t h := by rw [hg]; exact Nat.gcd_le_right _ (by omega)
      rw [if_neg hnz]
      refine hv_iload_n dX12_power_102 rfl ?_
      refine hv_if_eq (tgt := 114) dX12_power_103 (by decide) (fun c_103 => ?_) (fun c_103 => ?_)
      · refine hv_iload_n dX12_power_114 rfl ?_
        refine hv_iload dX12_power_115 rfl ?_
        refine hv_idiv dX12_power_117 (nI_ne0 hg0 (by omega)) ?_
        refine hv_iret dX12_power_118 rfl ?_
        refine ⟨congrArg (fun z => some (Value.int z)) ?_, rfl, rfl, q1, q2⟩
        first
          | rw [if_pos c_103]
          | rw [if_neg c_103]
      · refine hv_iload dX12_power_106 rfl ?_
        refine hv_iload dX12_power_108 rfl ?_
        refine hv_idiv dX12_power_110 (nI_ne0 hg0 (by omega)) ?_
        refine hv_goto (tgt := 118) dX12_power_111 (by decide) ?_
        refine hv_iret dX12_power_118 rfl ?_
        refine ⟨congrArg (fun z => some (Value.int z)) ?_, rfl, rfl, q1, q2⟩
        first
          | rw [if_pos c_103]
          | rw [if_neg c_103]
    · rw [if_pos (show nS t h = 0 from (nI_eq (by omega) (by decide)).mp c_89)]
      refine hv_iload_n dX12_power_92 rfl ?_
      refine hv_if_eq (tgt := 100) dX12_power_93 (by decide) (fun c_93 => ?_) (fun c_93 => ?_)
      · refine hv_iconst (v := 0) dX12_power_100 (by decide) ?_
        refine hv_iret dX12_power_101 rfl ?_
        refine ⟨congrArg (fun z => some (Value.int z)) ?_, rfl, rfl, q1, q2⟩
        first
          | rw [if_pos c_93]
          | rw [if_neg c_93]
      · refine hv_iconst (v := 1) dX12_power_96 (by decide) ?_
        refine hv_goto (tgt := 101) dX12_power_97 (by decide) ?_
        refine hv_iret dX12_power_101 rfl ?_
        refine ⟨congrArg (fun z => some (Value.int z)) ?_, rfl, rfl, q1, q2⟩
        first
          | rw [if_pos c_93]
          | rw [if_neg c_93]
  · rw [hsel_no (bI_0 c_5)]
    refine hv_iconst (v := -1) dX12_power_8 (by decide) ?_
    refine hv_iret dX12_power_9 rfl ?_
    exact ⟨rfl, rfl, rfl, fun _ _ => rfl, k64_rf⟩
end S55

