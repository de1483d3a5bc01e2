abbrev m_X11_house (Q : hPo) : hMe := (hrm 5, 0, 0, yX11_house, cX11_house, 3, (some FieldType.int), shp, none, Q)
abbrev m_X11_takeover (Q : hPo) : hMe := (hrm 3, 0, 0, yX11_takeover, cX11_takeover, 6, (some FieldType.int), shp, none, Q)
abbrev m_X11_motion (Q : hPo) : hMe := (hrm 4, 0, 0, yX11_motion, cX11_motion, 5, (some FieldType.int), shp, none, Q)
abbrev m_X11_poorest (Q : hPo) : hMe := (hrm 6, 0, 0, yX11_poorest, cX11_poorest, 5, (some FieldType.int), shp, none, Q)
abbrev m_X11_then (Q : hPo) : hMe := (hrm 6, 0, 0, yX11_then, cX11_then, 5, (some FieldType.int), shp, none, Q)
abbrev m_X11_share (Q : hPo) : hMe := (hrm 2, 0, 0, yX11_share, cX11_share, 3, (some FieldType.int), shp, none, Q)
abbrev m_X10_allHunger (Q : hPo) : hMe := (hrm 0, 0, 0, yX10_allHunger, cX10_allHunger, 3, (some FieldType.int), shp, none, Q)
abbrev m_X11_isDeal (Q : hPo) : hMe := (hrm 0, 0, 0, yX11_isDeal, cX11_isDeal, 4, (some FieldType.boolean), shp, none, Q)
abbrev m_X11_deals (Q : hPo) : hMe := (hrm 3, 0, 0, yX11_deals, cX11_deals, 7, (some FieldType.int), shp, none, Q)
abbrev m_X11_ruin (Q : hPo) : hMe := (hrm 6, 0, 0, yX11_ruin, cX11_ruin, 6, (some FieldType.int), shp, none, Q)
abbrev m_X11_count (Q : hPo) : hMe := (hrm 5, 0, 0, yX11_count, cX11_count, 2, (some FieldType.int), shp, none, Q)
def fGcd : Nat → Int32 → Int32 → Int32
  | 0, hi, _ => hi
  | k + 1, hi, lo => if lo ≤ 0 then hi else fGcd k lo (hi - hi / lo * lo)
def amin (f : hF) : Nat → Nat
  | 0 => 0
  | n + 1 => if n = 0 then 0 else if f n < f (amin f n) then n else amin f n
theorem amin_le (f : hF) : ∀ n, amin f n ≤ n - 1
  | 0 => by simp [amin]
  | n + 1 => by
    have hq := amin_le f n
    unfold amin
    split
    · omega
    · split <;> omega
theorem amin_congr {f g : hF} : ∀ (n : Nat), (∀ a, a < n → f a = g a) → amin f n = amin g n
  | 0, _ => rfl
  | n + 1, hq => by
    have hl := amin_le g n
    unfold amin
    rw [amin_congr n (fun a ha => hq a (by omega)), hq n (by omega)]
    by_cases hz : n = 0
    · rw [if_pos hz, if_pos hz]
    · rw [if_neg hz, if_neg hz, hq _ (by omega)]
section S26
variable {G : hGl} {σ : hS} {τ : hT} {x y : Option Nat}
theorem hv_lkin {M : hMe} {ck cn : Nat} {Sh : hSh} {pc : Nat} {lv : List (Option Value)} {st : List Value} {r : hR} {dflt : Int} {ps : Array (Int × Int)} {len : Nat} {z v : Int32} {off : Int} {tgt : Nat} (hd : decode (hmB M) pc = .ok (.lookupswitch dflt ps, len)) (hz : z = v) (hp : (ps.toList.zip (ps.toList.drop 1)).all (fun (a, next) => a.1 < next.1) = true) (ho : Op.lookupswitch.offset ps.toList dflt v.toInt = off) (ht : (pc : Int) + off = (tgt : Int)) (h : hV G M ck cn Sh tgt lv st r σ τ) : hV G M ck cn Sh pc lv (.int z :: st) r σ τ := by
  subst hz
  exact fun p e s m args below meth c C H locs ls hH hS hl => lv_lookup C.1 C.2.1 hd hp ho ht (h p e s m args below meth c C H locs ls hH hS hl)
theorem hv_lkout {M : hMe} {ck cn : Nat} {Sh : hSh} {pc : Nat} {lv : List (Option Value)} {st : List Value} {r : hR} {dflt : Int} {ps : Array (Int × Int)} {len : Nat} {z : Int32} {tgt : Nat} (hd : decode (hmB M) pc = .ok (.lookupswitch dflt ps, len)) (hp : (ps.toList.zip (ps.toList.drop 1)).all (fun (a, next) => a.1 < next.1) = true) (ho : Op.lookupswitch.offset ps.toList dflt z.toInt = dflt) (ht : (pc : Int) + dflt = (tgt : Int)) (h : hV G M ck cn Sh tgt lv st r σ τ) : hV G M ck cn Sh pc lv (.int z :: st) r σ τ :=
  fun p e s m args below meth c C H locs ls hH hS hl => lv_lookup C.1 C.2.1 hd hp ho ht (h p e s m args below meth c C H locs ls hH hS hl)
theorem c_divisor {a b : Int32} {r : hR} : hCal G (m_X11_divisor (hEq (some (.int (fGcd 64 (hmax a b) (hmin a b)))) r σ τ)) [.int a, .int b] shp r σ τ := by
  refine hv_enter pn_X11 rfl ?_
  have loop : ∀ k i (hi lo res : Int32), i + k = 64 → fGcd k hi lo = res → hV G (m_X11_divisor (hEq (some (.int res)) r σ τ)) 0 0 shp 15 [some (.int a), some (.int b), some (.int hi), some (.int lo), some (.int (nI i)), none] [] r σ τ := by
    intro k
    induction k with
    | zero =>
      intro i hi lo res hik hr
      obtain rfl : i = 64 := by omega
      refine hv_iload dX11_divisor_15 rfl ?_
      refine hv_bipush (v := 64) dX11_divisor_17 (by decide) ?_
      refine hv_icmp_ge (tgt := 42) dX11_divisor_19 (by decide) (fun c_19 => ?_) (fun c_19 => absurd ((by decide)) c_19)
      refine hv_iload_n dX11_divisor_42 rfl ?_
      refine hv_iret dX11_divisor_43 rfl ?_
      rw [← hr]; exact ⟨rfl, rfl, rfl, rfl⟩
    | succ k ih =>
      intro i hi lo res hik hr
      rw [fGcd] at hr
      refine hv_iload dX11_divisor_15 rfl ?_
      refine hv_bipush (v := 64) dX11_divisor_17 (by decide) ?_
      refine hv_icmp_ge (tgt := 42) dX11_divisor_19 (by decide) (fun c_19 => absurd c_19 ((nI_ge (b := 64) (by omega) (by decide)))) (fun c_19 => ?_)
      refine hv_iload_n dX11_divisor_22 rfl ?_
      refine hv_if_le (tgt := 42) dX11_divisor_23 (by decide) (fun c_23 => ?_) (fun c_23 => ?_)
      · rw [if_pos c_23] at hr
        refine hv_iload_n dX11_divisor_42 rfl ?_
        refine hv_iret dX11_divisor_43 rfl ?_
        rw [← hr]; exact ⟨rfl, rfl, rfl, rfl⟩
      · rw [if_neg c_23] at hr
        refine hv_iload_n dX11_divisor_26 rfl ?_
        refine hv_iload_n dX11_divisor_27 rfl ?_
        refine hv_irem dX11_divisor_28 (fun qq => c_23 (by rw [qq]; decide)) ?_
        refine hv_istore dX11_divisor_29 rfl rfl ?_
        refine hv_iload_n dX11_divisor_31 rfl ?_
        refine hv_istore_n dX11_divisor_32 rfl rfl ?_
        refine hv_iload dX11_divisor_33 rfl ?_
        refine hv_istore_n dX11_divisor_35 rfl rfl ?_
        refine hv_iinc dX11_divisor_36 rfl (nI_1 i) rfl rfl ?_
        refine hv_goto (tgt := 15) dX11_divisor_39 (by decide) ?_
        refine hv_drop 5 ?_
        exact ih (i + 1) _ _ res (by omega) hr
  refine hv_iload_n dX11_divisor_0 rfl ?_
  refine hv_iload_n dX11_divisor_1 rfl ?_
  refine hv_max dX11_divisor_2 ml_X11_286 rfl rfl rfl rfl ?_
  refine hv_istore_n dX11_divisor_5 rfl rfl ?_
  refine hv_iload_n dX11_divisor_6 rfl ?_
  refine hv_iload_n dX11_divisor_7 rfl ?_
  refine hv_min dX11_divisor_8 ml_X11_381 rfl rfl rfl rfl ?_
  refine hv_istore_n dX11_divisor_11 rfl rfl ?_
  refine hv_iconst (v := 0) dX11_divisor_12 (by decide) ?_
  refine hv_istore dX11_divisor_13 rfl rfl ?_
  exact loop 64 0 _ _ _ (by omega) rfl
def fPow (own all : Int32) (bl : Int32) : Int32 := if 1 ≤ fGcd 64 (hmax own all) (hmin own all) then (if bl = 0 then own else all) / fGcd 64 (hmax own all) (hmin own all) else if bl = 0 then 0 else 1
theorem c_power {h sz : Nat} {pr : Nat → Option Nat} {V T : hF} {a bl : Int32} (ok : okC σ h sz) (hs5 : σ 11 5 = nI h) (hpr : okX σ h pr) (hvv : V = fVotes (twC σ h sz) (dyC σ 11) (hsum (σ 12) h)) (hT : ∀ f : hF, (∀ i, i < 7 → f i = fHad V pr h i) → ∀ i, i < h → T i = nI (fTurn f (hsum V h) i (2 ^ h))) : hCal G (m_X11_power (hQx xQ (some (.int (hsel h a (-1) (fun i => fPow (T i) (hsum T h) bl)))) (rr 38 51 x y) σ τ)) [.ref (hgA G 0), .int a, .int bl] shp (rr 38 51 x y) σ τ := by
  have k2 := ok.2.1
  refine hv_enter pn_X11 rfl ?_
  refine hv_aload_n dX11_power_0 rfl ?_
  refine hv_iload_n dX11_power_1 rfl ?_
  refine hv_cv1 (c_isHouse ok.1) dX11_power_2 ml_X11_141 mk_X11_isHouse (by first | rfl | assumption) rfl rfl rfl rfl rfl ?_
  rintro _ _ _ _ ⟨rfl, rfl, rfl, rfl⟩
  refine hv_if_ne (tgt := 10) dX11_power_5 (by decide) (fun c_5 => ?_) (fun c_5 => ?_)
  · obtain ⟨i, hi, rfl⟩ := isH_ix k2 (bI_1 c_5)
    rw [hsel_yes hi k2]
    refine hv_aload_n dX11_power_10 rfl ?_
    refine hv_getr dX11_power_11 fl_X11_67 (by first | rfl | assumption) rfl (by first | rfl | assumption) ?_
    refine hv_aload_n dX11_power_14 rfl ?_
    refine hv_getr dX11_power_15 fl_X11_81 (by first | rfl | assumption) rfl (by first | rfl | assumption) ?_
    refine hv_aload_n dX11_power_18 rfl ?_
    refine hv_getr dX11_power_19 fl_X11_44 (by first | rfl | assumption) rfl (by first | rfl | assumption) ?_
    refine hv_cv2 (c_gather ok hs5 hpr hvv) dX11_power_22 ml_X11_260 mk_X0_gather (by first | rfl | assumption) rfl rfl rfl rfl rfl ?_
    rintro _ _ σ1 _ ⟨rfl, rfl, rfl, hq1, hq2, hq3, hq4⟩
    refine hv_aload_n dX11_power_25 rfl ?_
    refine hv_getr dX11_power_26 fl_X11_67 (by first | rfl | assumption) rfl (by first | rfl | assumption) ?_
    refine hv_cv0 (c_countTurns hq2 k2) dX11_power_29 ml_X11_264 mk_X0_countTurns (by first | rfl | assumption) rfl rfl rfl rfl rfl ?_
    rintro _ _ σ2 _ ⟨rfl, rfl, rfl, hq5, hq6⟩
    have hTi : ∀ j, j < h → σ2 33 j = T j := fun j hj => by rw [hq6 j hj, hq3, hT (σ1 32) hq4 j hj]
    refine hv_aload_n dX11_power_32 rfl ?_
    refine hv_getr dX11_power_33 fl_X11_67 (by first | rfl | assumption) rfl (by first | rfl | assumption) ?_
    refine hv_getr dX11_power_36 fl_X11_267 (by first | rfl | assumption) rfl (by first | rfl | assumption) ?_
    refine hv_iload_n dX11_power_39 rfl ?_
    refine hv_iald dX11_power_40 (by first | rfl | assumption) rfl (by first | assumption | omega) (by first | decide | assumption) ?_
    refine hv_istore_n dX11_power_41 rfl rfl ?_
    refine hv_aload_n dX11_power_42 rfl ?_
    refine hv_getr dX11_power_43 fl_X11_67 (by first | rfl | assumption) rfl (by first | rfl | assumption) ?_
    refine hv_cv0 (c_allTurns (by rw [hq5 31 (by decide)]; exact hq2) k2) dX11_power_46 ml_X11_270 mk_X0_allTurns (by first | rfl | assumption) rfl rfl rfl rfl rfl ?_
    rintro _ _ _ _ ⟨rfl, rfl, rfl, rfl⟩
    rw [hsum_congr h hTi, hTi i hi]
    obtain ⟨ow, how⟩ : ∃ ow, T i = ow := ⟨_, rfl⟩
    obtain ⟨al, hal⟩ : ∃ al, hsum T h = al := ⟨_, rfl⟩
    rw [how, hal]
    refine hv_istore dX11_power_49 rfl rfl ?_
    refine hv_iload_n dX11_power_51 rfl ?_
    refine hv_iload dX11_power_52 rfl ?_
    refine hv_cs2 (c_divisor) dX11_power_54 ml_X11_273 mk_X11_divisor rfl rfl rfl ?_
    rintro _ _ _ _ ⟨rfl, rfl, rfl, rfl⟩
    unfold fPow
    obtain ⟨gc, hgc⟩ : ∃ gc, fGcd 64 (hmax ow al) (hmin ow al) = gc := ⟨_, rfl⟩
    rw [hgc]
    refine hv_istore dX11_power_57 rfl rfl ?_
    refine hv_iload dX11_power_59 rfl ?_
    refine hv_iconst (v := 1) dX11_power_61 (by decide) ?_
    refine hv_icmp_ge (tgt := 75) dX11_power_62 (by decide) (fun c_62 => ?_) (fun c_62 => ?_)
    · rw [if_pos c_62]
      refine hv_iload_n dX11_power_75 rfl ?_
      refine hv_if_eq (tgt := 84) dX11_power_76 (by decide) (fun c_76 => ?_) (fun c_76 => ?_)
      · rw [if_pos c_76]
        refine hv_iload_n dX11_power_84 rfl ?_
        refine hv_iload dX11_power_85 rfl ?_
        refine hv_idiv dX11_power_87 (fun qq => absurd c_62 (by rw [qq]; decide)) ?_
        refine hv_iret dX11_power_88 rfl ?_
        exact ⟨rfl, rfl, rfl, off_tr hq1 hq5 (by decide) (by decide)⟩
      · rw [if_neg c_76]
        refine hv_iload dX11_power_79 rfl ?_
        refine hv_goto (tgt := 85) dX11_power_81 (by decide) ?_
        refine hv_iload dX11_power_85 rfl ?_
        refine hv_idiv dX11_power_87 (fun qq => absurd c_62 (by rw [qq]; decide)) ?_
        refine hv_iret dX11_power_88 rfl ?_
        exact ⟨rfl, rfl, rfl, off_tr hq1 hq5 (by decide) (by decide)⟩
    · rw [if_neg c_62]
      refine hv_iload_n dX11_power_65 rfl ?_
      refine hv_if_eq (tgt := 73) dX11_power_66 (by decide) (fun c_66 => ?_) (fun c_66 => ?_)
      · rw [if_pos c_66]
        refine hv_iconst (v := 0) dX11_power_73 (by decide) ?_
        refine hv_iret dX11_power_74 rfl ?_
        exact ⟨rfl, rfl, rfl, off_tr hq1 hq5 (by decide) (by decide)⟩
      · rw [if_neg c_66]
        refine hv_iconst (v := 1) dX11_power_69 (by decide) ?_
        refine hv_goto (tgt := 74) dX11_power_70 (by decide) ?_
        refine hv_iret dX11_power_74 rfl ?_
        exact ⟨rfl, rfl, rfl, off_tr hq1 hq5 (by decide) (by decide)⟩
  · rw [hsel_no (bI_0 c_5)]
    refine hv_iconst (v := -1) dX11_power_8 (by decide) ?_
    refine hv_iret dX11_power_9 rfl ?_
    exact ⟨rfl, rfl, rfl, fun _ _ => rfl⟩
theorem c_allHunger {h : Nat} (h38 : σ 38 7 = nI h) (k2 : h ≤ 7) : hCal G (m_X10_allHunger (hEq (some (.int (hsum (σ 41) h))) (rr 38 51 x y) σ τ)) [.ref (hgA G 38)] shp (rr 38 51 x y) σ τ := by
  refine hv_enter pn_X10 rfl ?_
  have loop : ∀ k i, i + k = h → hV G (m_X10_allHunger (hEq (some (.int (hsum (σ 41) h))) (rr 38 51 x y) σ τ)) 0 0 shp 4 [some (.ref (hgA G 38)), some (.int (hsum (σ 41) i)), some (.int (nI i))] [] (rr 38 51 x y) σ τ := by
    intro k
    induction k with
    | zero =>
      intro i hi
      obtain rfl : i = h := by omega
      refine hv_iload_n dX10_allHunger_4 rfl ?_
      refine hv_aload_n dX10_allHunger_5 rfl ?_
      refine hv_geti dX10_allHunger_6 fl_X10_40 (by first | rfl | assumption) rfl ?_
      refine hv_icmp_ge (tgt := 27) dX10_allHunger_9 (by decide) (fun c_9 => ?_) (fun c_9 => absurd ((by rw [h38]; exact nI_le (Nat.le_refl _) (by omega))) c_9)
      refine hv_iload_n dX10_allHunger_27 rfl ?_
      refine hv_iret dX10_allHunger_28 rfl ?_
      exact ⟨rfl, rfl, rfl, rfl⟩
    | succ k ih =>
      intro i hi
      refine hv_iload_n dX10_allHunger_4 rfl ?_
      refine hv_aload_n dX10_allHunger_5 rfl ?_
      refine hv_geti dX10_allHunger_6 fl_X10_40 (by first | rfl | assumption) rfl ?_
      refine hv_icmp_ge (tgt := 27) dX10_allHunger_9 (by decide) (fun c_9 => absurd c_9 ((by rw [h38]; exact nI_ge (by omega) (by omega)))) (fun c_9 => ?_)
      refine hv_iload_n dX10_allHunger_12 rfl ?_
      refine hv_aload_n dX10_allHunger_13 rfl ?_
      refine hv_getr dX10_allHunger_14 fl_X10_18 (by first | rfl | assumption) rfl (by first | rfl | assumption) ?_
      refine hv_iload_n dX10_allHunger_17 rfl ?_
      refine hv_iald dX10_allHunger_18 (by first | rfl | assumption) rfl (by first | assumption | omega) (by first | decide | assumption) ?_
      refine hv_iadd dX10_allHunger_19 ?_
      refine hv_istore_n dX10_allHunger_20 rfl rfl ?_
      refine hv_iinc dX10_allHunger_21 rfl (nI_1 i) rfl rfl ?_
      refine hv_goto (tgt := 4) dX10_allHunger_24 (by decide) ?_
      exact ih (i + 1) (by omega)
  refine hv_iconst (v := 0) dX10_allHunger_0 (by decide) ?_
  refine hv_istore_n dX10_allHunger_1 rfl rfl ?_
  refine hv_iconst (v := 0) dX10_allHunger_2 (by decide) ?_
  refine hv_istore_n dX10_allHunger_3 rfl rfl ?_
  exact loop h 0 (by omega)
theorem c_share {h : Nat} {a : Int32} (h38 : σ 38 7 = nI h) (k2 : h ≤ 7) (hs5 : σ 11 5 = nI h) : hCal G (m_X11_share (hEq (some (.int (hsel h a (-1) (fun i => if 0 < hsum (σ 41) h then hsum (σ 12) h * σ 41 i / hsum (σ 41) h else 0)))) (rr 38 51 x y) σ τ)) [.ref (hgA G 0), .int a] shp (rr 38 51 x y) σ τ := by
  refine hv_enter pn_X11 rfl ?_
  refine hv_aload_n dX11_share_0 rfl ?_
  refine hv_iload_n dX11_share_1 rfl ?_
  refine hv_cv1 (c_isHouse h38) dX11_share_2 ml_X11_141 mk_X11_isHouse (by first | rfl | assumption) rfl rfl rfl rfl rfl ?_
  rintro _ _ _ _ ⟨rfl, rfl, rfl, rfl⟩
  refine hv_if_ne (tgt := 10) dX11_share_5 (by decide) (fun c_5 => ?_) (fun c_5 => ?_)
  · obtain ⟨i, hi, rfl⟩ := isH_ix k2 (bI_1 c_5)
    rw [hsel_yes hi k2]
    refine hv_aload_n dX11_share_10 rfl ?_
    refine hv_getr dX11_share_11 fl_X11_81 (by first | rfl | assumption) rfl (by first | rfl | assumption) ?_
    refine hv_cv0 (c_allHunger h38 k2) dX11_share_14 ml_X11_334 mk_X10_allHunger (by first | rfl | assumption) rfl rfl rfl rfl rfl ?_
    rintro _ _ _ _ ⟨rfl, rfl, rfl, rfl⟩
    refine hv_istore_n dX11_share_17 rfl rfl ?_
    refine hv_iload_n dX11_share_18 rfl ?_
    refine hv_if_gt (tgt := 26) dX11_share_19 (by decide) (fun c_19 => ?_) (fun c_19 => ?_)
    · rw [if_pos c_19]
      refine hv_aload_n dX11_share_26 rfl ?_
      refine hv_getr dX11_share_27 fl_X11_44 (by first | rfl | assumption) rfl (by first | rfl | assumption) ?_
      refine hv_cv0 (c_allFish_11 hs5 k2) dX11_share_30 ml_X11_166 mk_X6_allFish (by first | rfl | assumption) rfl rfl rfl rfl rfl ?_
      rintro _ _ _ _ ⟨rfl, rfl, rfl, rfl⟩
      refine hv_aload_n dX11_share_33 rfl ?_
      refine hv_getr dX11_share_34 fl_X11_81 (by first | rfl | assumption) rfl (by first | rfl | assumption) ?_
      refine hv_getr dX11_share_37 fl_X11_151 (by first | rfl | assumption) rfl (by first | rfl | assumption) ?_
      refine hv_iload_n dX11_share_40 rfl ?_
      refine hv_iald dX11_share_41 (by first | rfl | assumption) rfl (by first | assumption | omega) (by first | decide | assumption) ?_
      refine hv_imul dX11_share_42 ?_
      refine hv_iload_n dX11_share_43 rfl ?_
      refine hv_idiv dX11_share_44 (fun qq => absurd c_19 (by rw [qq]; decide)) ?_
      refine hv_iret dX11_share_45 rfl ?_
      exact ⟨rfl, rfl, rfl, rfl⟩
    · rw [if_neg c_19]
      refine hv_iconst (v := 0) dX11_share_22 (by decide) ?_
      refine hv_goto (tgt := 45) dX11_share_23 (by decide) ?_
      refine hv_iret dX11_share_45 rfl ?_
      exact ⟨rfl, rfl, rfl, rfl⟩
  · rw [hsel_no (bI_0 c_5)]
    refine hv_iconst (v := -1) dX11_share_8 (by decide) ?_
    refine hv_iret dX11_share_9 rfl ?_
    exact ⟨rfl, rfl, rfl, rfl⟩
theorem c_fewestFish {h : Nat} (hs5 : σ 22 5 = nI h) (k2 : h ≤ 7) (h1 : 1 ≤ h) : hCal G (m_X6_fewestFish (hEq (some (.int (nI (amin (σ 23) h)))) (rr 38 51 x y) σ τ)) [.ref (hgA G 22)] shp (rr 38 51 x y) σ τ := by
  refine hv_enter pn_X6 rfl ?_
  have loop : ∀ k i, i + k = h → 1 ≤ i → hV G (m_X6_fewestFish (hEq (some (.int (nI (amin (σ 23) h)))) (rr 38 51 x y) σ τ)) 0 0 shp 4 [some (.ref (hgA G 22)), some (.int (nI (amin (σ 23) i))), some (.int (nI i))] [] (rr 38 51 x y) σ τ := by
    intro k
    induction k with
    | zero =>
      intro i hi h1i
      obtain rfl : i = h := by omega
      refine hv_iload_n dX6_fewestFish_4 rfl ?_
      refine hv_aload_n dX6_fewestFish_5 rfl ?_
      refine hv_geti dX6_fewestFish_6 fl_X6_33 (by first | rfl | assumption) rfl ?_
      refine hv_icmp_ge (tgt := 39) dX6_fewestFish_9 (by decide) (fun c_9 => ?_) (fun c_9 => absurd ((by rw [hs5]; exact nI_le (Nat.le_refl _) (by omega))) c_9)
      refine hv_iload_n dX6_fewestFish_39 rfl ?_
      refine hv_iret dX6_fewestFish_40 rfl ?_
      exact ⟨rfl, rfl, rfl, rfl⟩
    | succ k ih =>
      intro i hi h1i
      have hle := amin_le (σ 23) i
      obtain ⟨am, ham⟩ : ∃ am, amin (σ 23) i = am := ⟨_, rfl⟩
      have hnx : amin (σ 23) (i + 1) = if σ 23 i < σ 23 am then i else am := by rw [amin, if_neg (by omega), ham]
      rw [ham] at hle ⊢
      refine hv_iload_n dX6_fewestFish_4 rfl ?_
      refine hv_aload_n dX6_fewestFish_5 rfl ?_
      refine hv_geti dX6_fewestFish_6 fl_X6_33 (by first | rfl | assumption) rfl ?_
      refine hv_icmp_ge (tgt := 39) dX6_fewestFish_9 (by decide) (fun c_9 => absurd c_9 ((by rw [hs5]; exact nI_ge (by omega) (by omega)))) (fun c_9 => ?_)
      refine hv_aload_n dX6_fewestFish_12 rfl ?_
      refine hv_getr dX6_fewestFish_13 fl_X6_9 (by first | rfl | assumption) rfl (by first | rfl | assumption) ?_
      refine hv_iload_n dX6_fewestFish_16 rfl ?_
      refine hv_iald dX6_fewestFish_17 (by first | rfl | assumption) rfl (by first | assumption | omega) (by first | decide | assumption) ?_
      refine hv_aload_n dX6_fewestFish_18 rfl ?_
      refine hv_getr dX6_fewestFish_19 fl_X6_9 (by first | rfl | assumption) rfl (by first | rfl | assumption) ?_
      refine hv_iload_n dX6_fewestFish_22 rfl ?_
      refine hv_iald dX6_fewestFish_23 (by first | rfl | assumption) rfl (by first | assumption | omega) (by first | decide | assumption) ?_
      refine hv_icmp_ge (tgt := 31) dX6_fewestFish_24 (by decide) (fun c_24 => ?_) (fun c_24 => ?_)
      · rw [if_neg (Int32.not_lt.mpr c_24)] at hnx
        refine hv_iload_n dX6_fewestFish_31 rfl ?_
        refine hv_str (st' := [.int (nI (amin (σ 23) (i + 1)))]) (by rw [hnx]) ?_
        refine hv_istore_n dX6_fewestFish_32 rfl rfl ?_
        refine hv_iinc dX6_fewestFish_33 rfl (nI_1 i) rfl rfl ?_
        refine hv_goto (tgt := 4) dX6_fewestFish_36 (by decide) ?_
        exact ih (i + 1) (by omega) (by omega)
      · rw [if_pos (Int32.not_le.mp c_24)] at hnx
        refine hv_iload_n dX6_fewestFish_27 rfl ?_
        refine hv_goto (tgt := 32) dX6_fewestFish_28 (by decide) ?_
        refine hv_str (st' := [.int (nI (amin (σ 23) (i + 1)))]) (by rw [hnx]) ?_
        refine hv_istore_n dX6_fewestFish_32 rfl rfl ?_
        refine hv_iinc dX6_fewestFish_33 rfl (nI_1 i) rfl rfl ?_
        refine hv_goto (tgt := 4) dX6_fewestFish_36 (by decide) ?_
        exact ih (i + 1) (by omega) (by omega)
  refine hv_iconst (v := 0) dX6_fewestFish_0 (by decide) ?_
  refine hv_istore_n dX6_fewestFish_1 rfl rfl ?_
  refine hv_iconst (v := 1) dX6_fewestFish_2 (by decide) ?_
  refine hv_istore_n dX6_fewestFish_3 rfl rfl ?_
  exact loop (h - 1) 1 (by omega) (by omega)
end S26

