abbrev m_J6_bitCount_0f7a4 (Q : hPo) : hMe := (hrm 0, 0, 0, yJ6_bitCount_0f7a4, cJ6_bitCount_0f7a4, 1, (some FieldType.int), shp, none, Q)
def pop7 (m : Nat) : Nat := m % 2 + m / 2 % 2 + m / 4 % 2 + m / 8 % 2 + m / 16 % 2 + m / 32 % 2 + m / 64 % 2
def bcF (i : Int32) : Int32 :=
  let a := i - (hush i 1 &&& 1431655765)
  let b := (a &&& 858993459) + (hush a 2 &&& 858993459)
  let c := (b + hush b 4) &&& 252645135
  let d := c + hush c 8
  let e := d + hush d 16
  e &&& 63
set_option maxRecDepth 100000 in
theorem bcF_ok : ∀ m, m < 128 → bcF (nI m) = nI (pop7 m) := by decide +kernel
theorem pop7_le (m : Nat) : pop7 m ≤ 7 := by unfold pop7; omega
theorem i32_ext {a b : Int32} (h : a.toBitVec.toNat = b.toBitVec.toNat) : a = b := Int32.toBitVec_inj.mp (BitVec.eq_of_toNat_eq h)
theorem b_and {a b : Nat} (ha : a < 2 ^ 31) (hb : b < 2 ^ 31) : nI a &&& nI b = nI (a &&& b) := by
  apply i32_ext
  rw [Int32.toBitVec_and, BitVec.toNat_and, pk_tn (by omega), pk_tn (by omega), pk_tn (Nat.lt_of_le_of_lt Nat.and_le_left (by omega))]
theorem b_or {a b : Nat} (ha : a < 2 ^ 31) (hb : b < 2 ^ 31) : nI a ||| nI b = nI (a ||| b) := by
  apply i32_ext
  have h := Nat.or_lt_two_pow ha hb
  rw [Int32.toBitVec_or, BitVec.toNat_or, pk_tn (by omega), pk_tn (by omega), pk_tn (by omega)]
theorem b_xor {a b : Nat} (ha : a < 2 ^ 31) (hb : b < 2 ^ 31) : nI a ^^^ nI b = nI (a ^^^ b) := by
  apply i32_ext
  have h := Nat.xor_lt_two_pow ha hb
  rw [Int32.toBitVec_xor, BitVec.toNat_xor, pk_tn (by omega), pk_tn (by omega), pk_tn (by omega)]
theorem b_sh : ∀ i, i < 32 → ((nI i &&& 31).toBitVec.smod 32).toNat = i := by decide +kernel
theorem b_shl {i : Nat} (hi : i < 31) : (1 : Int32) <<< (nI i &&& 31) = nI (2 ^ i) := by
  have h := pk_shlN (n := 1) (nI i &&& 31) i (b_sh i (by omega)) (by rw [Nat.one_mul]; exact Nat.lt_of_lt_of_le (Nat.pow_lt_pow_right (by decide) hi) (by decide))
  rw [Nat.one_mul] at h
  exact h
theorem b_shr {m i : Nat} (hm : m < 2 ^ 31) (hi : i < 32) : (nI m >>> (nI i &&& 31)) &&& 1 = nI (m / 2 ^ i % 2) := by
  rw [pk_shrN hm (nI i &&& 31) i (b_sh i hi)]
  exact pk_andN (n := m / 2 ^ i) (Nat.lt_of_le_of_lt (Nat.div_le_self _ _) (by omega)) 1 (by decide)
theorem tb_div (m i : Nat) : m.testBit i = decide (m / 2 ^ i % 2 = 1) := by rw [Nat.testBit_eq_decide_div_mod_eq]
theorem div_mod2 (m i : Nat) : m / 2 ^ i % 2 = if m.testBit i = true then 1 else 0 := by
  rw [tb_div]
  by_cases h : m / 2 ^ i % 2 = 1
  · rw [h]; rfl
  · rw [if_neg (by simpa using h)]; omega
theorem pow_lt7 {i : Nat} (h : i < 7) : 2 ^ i < 128 := Nat.pow_lt_pow_right (a := 2) (n := 7) (by decide) h
theorem or_lt128 {a b : Nat} (ha : a < 128) (hb : b < 128) : a ||| b < 128 := Nat.or_lt_two_pow (n := 7) ha hb
theorem and_lt128 {a b : Nat} (ha : a < 128) : a &&& b < 128 := Nat.lt_of_le_of_lt Nat.and_le_left ha
section S16
variable {G : hGl} {σ : hS} {τ : hT}
theorem c_bitCount {m : Nat} {r : hR} (hm : m < 128) : hCal G (m_J6_bitCount_0f7a4 (hEq (some (.int (nI (pop7 m)))) r σ τ)) [.int (nI m)] shp r σ τ := by
  refine hv_enter pn_J6 rfl ?_
  refine hv_iload_n dJ6_bitCount_0f7a4_0 rfl ?_
  refine hv_iload_n dJ6_bitCount_0f7a4_1 rfl ?_
  refine hv_iconst (v := 1) dJ6_bitCount_0f7a4_2 (by decide) ?_
  refine hv_iushr dJ6_bitCount_0f7a4_3 ?_
  refine hv_ldcw dJ6_bitCount_0f7a4_4 cn_J6_265 ?_
  refine hv_iand dJ6_bitCount_0f7a4_7 ?_
  refine hv_isub dJ6_bitCount_0f7a4_8 ?_
  refine hv_istore_n dJ6_bitCount_0f7a4_9 rfl rfl ?_
  refine hv_iload_n dJ6_bitCount_0f7a4_10 rfl ?_
  refine hv_ldcw dJ6_bitCount_0f7a4_11 cn_J6_266 ?_
  refine hv_iand dJ6_bitCount_0f7a4_14 ?_
  refine hv_iload_n dJ6_bitCount_0f7a4_15 rfl ?_
  refine hv_iconst (v := 2) dJ6_bitCount_0f7a4_16 (by decide) ?_
  refine hv_iushr dJ6_bitCount_0f7a4_17 ?_
  refine hv_ldcw dJ6_bitCount_0f7a4_18 cn_J6_266 ?_
  refine hv_iand dJ6_bitCount_0f7a4_21 ?_
  refine hv_iadd dJ6_bitCount_0f7a4_22 ?_
  refine hv_istore_n dJ6_bitCount_0f7a4_23 rfl rfl ?_
  refine hv_iload_n dJ6_bitCount_0f7a4_24 rfl ?_
  refine hv_iload_n dJ6_bitCount_0f7a4_25 rfl ?_
  refine hv_iconst (v := 4) dJ6_bitCount_0f7a4_26 (by decide) ?_
  refine hv_iushr dJ6_bitCount_0f7a4_27 ?_
  refine hv_iadd dJ6_bitCount_0f7a4_28 ?_
  refine hv_ldcw dJ6_bitCount_0f7a4_29 cn_J6_267 ?_
  refine hv_iand dJ6_bitCount_0f7a4_32 ?_
  refine hv_istore_n dJ6_bitCount_0f7a4_33 rfl rfl ?_
  refine hv_iload_n dJ6_bitCount_0f7a4_34 rfl ?_
  refine hv_iload_n dJ6_bitCount_0f7a4_35 rfl ?_
  refine hv_bipush (v := 8) dJ6_bitCount_0f7a4_36 (by decide) ?_
  refine hv_iushr dJ6_bitCount_0f7a4_38 ?_
  refine hv_iadd dJ6_bitCount_0f7a4_39 ?_
  refine hv_istore_n dJ6_bitCount_0f7a4_40 rfl rfl ?_
  refine hv_iload_n dJ6_bitCount_0f7a4_41 rfl ?_
  refine hv_iload_n dJ6_bitCount_0f7a4_42 rfl ?_
  refine hv_bipush (v := 16) dJ6_bitCount_0f7a4_43 (by decide) ?_
  refine hv_iushr dJ6_bitCount_0f7a4_45 ?_
  refine hv_iadd dJ6_bitCount_0f7a4_46 ?_
  refine hv_istore_n dJ6_bitCount_0f7a4_47 rfl rfl ?_
  refine hv_iload_n dJ6_bitCount_0f7a4_48 rfl ?_
  refine hv_bipush (v := 63) dJ6_bitCount_0f7a4_49 (by decide) ?_
  refine hv_iand dJ6_bitCount_0f7a4_51 ?_
  refine hv_iret dJ6_bitCount_0f7a4_52 rfl ?_
  refine ⟨?_, rfl, rfl, rfl⟩
  rw [← bcF_ok m hm]
  rfl
end S16

