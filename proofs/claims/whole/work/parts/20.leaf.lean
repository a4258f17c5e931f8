/-! the small static methods -/
theorem lcm_cases (x y : Int) : (lcm x y = 1 ∧ y < x) ∨ (lcm x y = 0 ∧ x = y) ∨ (lcm x y = -1 ∧ x < y) := by
  unfold lcm
  by_cases h : y < x
  · rw [if_pos h]; omega
  · rw [if_neg h]
    by_cases h2 : x = y
    · rw [if_pos h2]; omega
    · rw [if_neg h2]; omega
set_option maxRecDepth 20000 in
theorem c_J9_max_7cf53 (σ : ab_S) (x y : Int) (hx1 : -2147483648 ≤ x) (hx2 : x ≤ 2147483647) (hy1 : -2147483648 ≤ y) (hy2 : y ≤ 2147483647) : C2 YJ9_max_7cf53 0 σ [iv x, iv y] (PI fun σ' z => σ' = σ ∧ z = max x y) := by
  refine C2.ofF (by decide +kernel) (Nat.le_of_ble_eq_true rfl) ?_
  refine r_iload_n (Y := YJ9_max_7cf53) dJ9_max_7cf53_0 rfl ?_
  refine r_iload_n (Y := YJ9_max_7cf53) dJ9_max_7cf53_1 rfl ?_
  refine r_icmp_lt (Y := YJ9_max_7cf53) (tgt := 9) dJ9_max_7cf53_2 (by decide) (fun c2 => ?_) (fun c2 => ?_) 
  · refine r_iload_n (Y := YJ9_max_7cf53) dJ9_max_7cf53_9 rfl ?_
    refine r_ireturn (Y := YJ9_max_7cf53) dJ9_max_7cf53_10 ?_
    exact ⟨rfl, by omega⟩
  · refine r_iload_n (Y := YJ9_max_7cf53) dJ9_max_7cf53_5 rfl ?_
    refine r_goto (Y := YJ9_max_7cf53) (tgt := 10) dJ9_max_7cf53_6 (by decide) ?_
    refine r_ireturn (Y := YJ9_max_7cf53) dJ9_max_7cf53_10 ?_
    exact ⟨rfl, by omega⟩
set_option maxRecDepth 20000 in
theorem c_J9_min_7cf53 (σ : ab_S) (x y : Int) (hx1 : -2147483648 ≤ x) (hx2 : x ≤ 2147483647) (hy1 : -2147483648 ≤ y) (hy2 : y ≤ 2147483647) : C2 YJ9_min_7cf53 0 σ [iv x, iv y] (PI fun σ' z => σ' = σ ∧ z = min x y) := by
  refine C2.ofF (by decide +kernel) (Nat.le_of_ble_eq_true rfl) ?_
  refine r_iload_n (Y := YJ9_min_7cf53) dJ9_min_7cf53_0 rfl ?_
  refine r_iload_n (Y := YJ9_min_7cf53) dJ9_min_7cf53_1 rfl ?_
  refine r_icmp_gt (Y := YJ9_min_7cf53) (tgt := 9) dJ9_min_7cf53_2 (by decide) (fun c2 => ?_) (fun c2 => ?_) 
  · refine r_iload_n (Y := YJ9_min_7cf53) dJ9_min_7cf53_9 rfl ?_
    refine r_ireturn (Y := YJ9_min_7cf53) dJ9_min_7cf53_10 ?_
    exact ⟨rfl, by omega⟩
  · refine r_iload_n (Y := YJ9_min_7cf53) dJ9_min_7cf53_5 rfl ?_
    refine r_goto (Y := YJ9_min_7cf53) (tgt := 10) dJ9_min_7cf53_6 (by decide) ?_
    refine r_ireturn (Y := YJ9_min_7cf53) dJ9_min_7cf53_10 ?_
    exact ⟨rfl, by omega⟩
set_option maxRecDepth 20000 in
theorem c_X8_isIn (σ : ab_S) (v lo hi : Int) (h1 : -2147483648 ≤ v) (h2 : v ≤ 2147483647) (h3 : -2147483648 ≤ lo) (h4 : lo ≤ 2147483647) (h5 : -2147483648 ≤ hi) (h6 : hi ≤ 2147483647) : C2 YX8_isIn 0 σ [iv v, iv lo, iv hi] (PI fun σ' z => σ' = σ ∧ z = if lo ≤ v ∧ v ≤ hi then 1 else 0) := by
  refine C2.of (by decide +kernel) (Nat.le_of_ble_eq_true rfl) ?_
  refine r_iload_n (Y := YX8_isIn) dX8_isIn_0 rfl ?_
  refine r_iload_n (Y := YX8_isIn) dX8_isIn_1 rfl ?_
  refine r_icmp_lt (Y := YX8_isIn) (tgt := 14) dX8_isIn_2 (by decide) (fun c2 => ?_) (fun c2 => ?_) 
  · refine r_iconst (Y := YX8_isIn) dX8_isIn_14 ?_
    refine r_zreturn (Y := YX8_isIn) dX8_isIn_15 (by decide) ?_
    exact ⟨rfl, by first | rw [if_pos (by omega)] | rw [if_neg (by omega)]⟩
  · refine r_iload_n (Y := YX8_isIn) dX8_isIn_5 rfl ?_
    refine r_iload_n (Y := YX8_isIn) dX8_isIn_6 rfl ?_
    refine r_icmp_gt (Y := YX8_isIn) (tgt := 14) dX8_isIn_7 (by decide) (fun c7 => ?_) (fun c7 => ?_) 
    · refine r_iconst (Y := YX8_isIn) dX8_isIn_14 ?_
      refine r_zreturn (Y := YX8_isIn) dX8_isIn_15 (by decide) ?_
      exact ⟨rfl, by first | rw [if_pos (by omega)] | rw [if_neg (by omega)]⟩
    · refine r_iconst (Y := YX8_isIn) dX8_isIn_10 ?_
      refine r_goto (Y := YX8_isIn) (tgt := 15) dX8_isIn_11 (by decide) ?_
      refine r_zreturn (Y := YX8_isIn) dX8_isIn_15 (by decide) ?_
      exact ⟨rfl, by first | rw [if_pos (by omega)] | rw [if_neg (by omega)]⟩
/-- how many bits of 0..63 -/
def pc6 (x : Int) : Int := x % 2 + x / 2 % 2 + x / 4 % 2 + x / 8 % 2 + x / 16 % 2 + x / 32 % 2
/-- the least bit of 1..63 -/
def tz6 (x : Int) : Int := if x % 2 = 1 then 0 else if x / 2 % 2 = 1 then 1 else if x / 4 % 2 = 1 then 2 else if x / 8 % 2 = 1 then 3 else if x / 16 % 2 = 1 then 4 else 5
set_option maxRecDepth 20000 in
theorem c_J6_bitCount_0f7a4 (σ : ab_S) (x : Int) (h1 : 0 ≤ x) (h2 : x < 64) : C2 YJ6_bitCount_0f7a4 0 σ [iv x] (PI fun σ' z => σ' = σ ∧ z = pc6 x) := by
  refine C2.ofF (by decide +kernel) (Nat.le_of_ble_eq_true rfl) ?_
  refine r_iload_n (Y := YJ6_bitCount_0f7a4) dJ6_bitCount_0f7a4_0 rfl ?_
  refine r_iload_n (Y := YJ6_bitCount_0f7a4) dJ6_bitCount_0f7a4_1 rfl ?_
  refine r_iconst (Y := YJ6_bitCount_0f7a4) dJ6_bitCount_0f7a4_2 ?_
  refine r_iushr (Y := YJ6_bitCount_0f7a4) dJ6_bitCount_0f7a4_3 ?_
  refine r_ldcw (Y := YJ6_bitCount_0f7a4) (z := 1431655765) wc_J6_265 dJ6_bitCount_0f7a4_4 (by decide) ?_
  refine r_iand (Y := YJ6_bitCount_0f7a4) dJ6_bitCount_0f7a4_7 ?_
  refine r_isub (Y := YJ6_bitCount_0f7a4) dJ6_bitCount_0f7a4_8 ?_
  refine r_istore_n (Y := YJ6_bitCount_0f7a4) dJ6_bitCount_0f7a4_9 ?_
  refine r_iload_n (Y := YJ6_bitCount_0f7a4) dJ6_bitCount_0f7a4_10 rfl ?_
  refine r_ldcw (Y := YJ6_bitCount_0f7a4) (z := 858993459) wc_J6_266 dJ6_bitCount_0f7a4_11 (by decide) ?_
  refine r_iand (Y := YJ6_bitCount_0f7a4) dJ6_bitCount_0f7a4_14 ?_
  refine r_iload_n (Y := YJ6_bitCount_0f7a4) dJ6_bitCount_0f7a4_15 rfl ?_
  refine r_iconst (Y := YJ6_bitCount_0f7a4) dJ6_bitCount_0f7a4_16 ?_
  refine r_iushr (Y := YJ6_bitCount_0f7a4) dJ6_bitCount_0f7a4_17 ?_
  refine r_ldcw (Y := YJ6_bitCount_0f7a4) (z := 858993459) wc_J6_266 dJ6_bitCount_0f7a4_18 (by decide) ?_
  refine r_iand (Y := YJ6_bitCount_0f7a4) dJ6_bitCount_0f7a4_21 ?_
  refine r_iadd (Y := YJ6_bitCount_0f7a4) dJ6_bitCount_0f7a4_22 ?_
  refine r_istore_n (Y := YJ6_bitCount_0f7a4) dJ6_bitCount_0f7a4_23 ?_
  refine r_iload_n (Y := YJ6_bitCount_0f7a4) dJ6_bitCount_0f7a4_24 rfl ?_
  refine r_iload_n (Y := YJ6_bitCount_0f7a4) dJ6_bitCount_0f7a4_25 rfl ?_
  refine r_iconst (Y := YJ6_bitCount_0f7a4) dJ6_bitCount_0f7a4_26 ?_
  refine r_iushr (Y := YJ6_bitCount_0f7a4) dJ6_bitCount_0f7a4_27 ?_
  refine r_iadd (Y := YJ6_bitCount_0f7a4) dJ6_bitCount_0f7a4_28 ?_
  refine r_ldcw (Y := YJ6_bitCount_0f7a4) (z := 252645135) wc_J6_267 dJ6_bitCount_0f7a4_29 (by decide) ?_
  refine r_iand (Y := YJ6_bitCount_0f7a4) dJ6_bitCount_0f7a4_32 ?_
  refine r_istore_n (Y := YJ6_bitCount_0f7a4) dJ6_bitCount_0f7a4_33 ?_
  refine r_iload_n (Y := YJ6_bitCount_0f7a4) dJ6_bitCount_0f7a4_34 rfl ?_
  refine r_iload_n (Y := YJ6_bitCount_0f7a4) dJ6_bitCount_0f7a4_35 rfl ?_
  refine r_bipush (Y := YJ6_bitCount_0f7a4) dJ6_bitCount_0f7a4_36 ?_
  refine r_iushr (Y := YJ6_bitCount_0f7a4) dJ6_bitCount_0f7a4_38 ?_
  refine r_iadd (Y := YJ6_bitCount_0f7a4) dJ6_bitCount_0f7a4_39 ?_
  refine r_istore_n (Y := YJ6_bitCount_0f7a4) dJ6_bitCount_0f7a4_40 ?_
  refine r_iload_n (Y := YJ6_bitCount_0f7a4) dJ6_bitCount_0f7a4_41 rfl ?_
  refine r_iload_n (Y := YJ6_bitCount_0f7a4) dJ6_bitCount_0f7a4_42 rfl ?_
  refine r_bipush (Y := YJ6_bitCount_0f7a4) dJ6_bitCount_0f7a4_43 ?_
  refine r_iushr (Y := YJ6_bitCount_0f7a4) dJ6_bitCount_0f7a4_45 ?_
  refine r_iadd (Y := YJ6_bitCount_0f7a4) dJ6_bitCount_0f7a4_46 ?_
  refine r_istore_n (Y := YJ6_bitCount_0f7a4) dJ6_bitCount_0f7a4_47 ?_
  refine r_iload_n (Y := YJ6_bitCount_0f7a4) dJ6_bitCount_0f7a4_48 rfl ?_
  refine r_bipush (Y := YJ6_bitCount_0f7a4) dJ6_bitCount_0f7a4_49 ?_
  refine r_iand (Y := YJ6_bitCount_0f7a4) dJ6_bitCount_0f7a4_51 ?_
  refine r_ireturn (Y := YJ6_bitCount_0f7a4) dJ6_bitCount_0f7a4_52 ?_
  refine ⟨rfl, ?_⟩
  obtain ⟨n, hn, rfl⟩ : ∃ n : Nat, n < 64 ∧ x = (n : Int) := ⟨x.toNat, by omega, by omega⟩
  clear h1 h2
  revert n hn
  decide +kernel
theorem tz6_y : ∀ n : Nat, n < 64 → 1 ≤ n → (ban (bxo (n : Int) (-1)) ((n : Int) - 1) = 0 ∧ tz6 n = 0) ∨ (ban (bxo (n : Int) (-1)) ((n : Int) - 1) = 1 ∧ tz6 n = 1) ∨ (ban (bxo (n : Int) (-1)) ((n : Int) - 1) = 3 ∧ tz6 n = 2) ∨ (ban (bxo (n : Int) (-1)) ((n : Int) - 1) = 7 ∧ tz6 n = 3) ∨ (ban (bxo (n : Int) (-1)) ((n : Int) - 1) = 15 ∧ tz6 n = 4) ∨ (ban (bxo (n : Int) (-1)) ((n : Int) - 1) = 31 ∧ tz6 n = 5) := by decide +kernel
theorem bus_0 : bus 0 1 = 0 := by decide +kernel
theorem bus_1 : bus 1 1 = 0 := by decide +kernel
theorem bus_3 : bus 3 1 = 1 := by decide +kernel
theorem bus_7 : bus 7 2 = 1 := by decide +kernel
theorem bus_15 : bus 15 2 = 3 := by decide +kernel
theorem bus_31 : bus 31 4 = 1 := by decide +kernel
set_option maxRecDepth 20000 in
theorem c_J6_numberOfTrailingZeros_0f7a4 (σ : ab_S) (x : Int) (h1 : 1 ≤ x) (h2 : x < 64) : C2 YJ6_numberOfTrailingZeros_0f7a4 0 σ [iv x] (PI fun σ' z => σ' = σ ∧ z = tz6 x) := by
  refine C2.ofF (by decide +kernel) (Nat.le_of_ble_eq_true rfl) ?_
  refine r_iload_n (Y := YJ6_numberOfTrailingZeros_0f7a4) dJ6_numberOfTrailingZeros_0f7a4_0 rfl ?_
  refine r_iconst (Y := YJ6_numberOfTrailingZeros_0f7a4) dJ6_numberOfTrailingZeros_0f7a4_1 ?_
  refine r_ixor (Y := YJ6_numberOfTrailingZeros_0f7a4) dJ6_numberOfTrailingZeros_0f7a4_2 ?_
  refine r_iload_n (Y := YJ6_numberOfTrailingZeros_0f7a4) dJ6_numberOfTrailingZeros_0f7a4_3 rfl ?_
  refine r_iconst (Y := YJ6_numberOfTrailingZeros_0f7a4) dJ6_numberOfTrailingZeros_0f7a4_4 ?_
  refine r_isub (Y := YJ6_numberOfTrailingZeros_0f7a4) dJ6_numberOfTrailingZeros_0f7a4_5 ?_
  refine r_iand (Y := YJ6_numberOfTrailingZeros_0f7a4) dJ6_numberOfTrailingZeros_0f7a4_6 ?_
  refine r_istore_n (Y := YJ6_numberOfTrailingZeros_0f7a4) dJ6_numberOfTrailingZeros_0f7a4_7 ?_

  obtain ⟨n, hn, rfl⟩ : ∃ n : Nat, n < 64 ∧ x = (n : Int) := ⟨x.toNat, by omega, by omega⟩
  rcases tz6_y n hn (by omega) with ⟨e, e2⟩ | ⟨e, e2⟩ | ⟨e, e2⟩ | ⟨e, e2⟩ | ⟨e, e2⟩ | ⟨e, e2⟩ <;> rw [e, e2] <;> clear e e2
  · refine r_iload_n (Y := YJ6_numberOfTrailingZeros_0f7a4) dJ6_numberOfTrailingZeros_0f7a4_8 rfl ?_
    refine r_if_gt (Y := YJ6_numberOfTrailingZeros_0f7a4) (tgt := 17) dJ6_numberOfTrailingZeros_0f7a4_9 (by decide) (fun c9 => absurd c9 (by omega)) (fun c9 => ?_) 
    refine r_iload_n (Y := YJ6_numberOfTrailingZeros_0f7a4) dJ6_numberOfTrailingZeros_0f7a4_12 rfl ?_
    refine r_bipush (Y := YJ6_numberOfTrailingZeros_0f7a4) dJ6_numberOfTrailingZeros_0f7a4_13 ?_
    refine r_iand (Y := YJ6_numberOfTrailingZeros_0f7a4) dJ6_numberOfTrailingZeros_0f7a4_15 ?_
    refine r_ireturn (Y := YJ6_numberOfTrailingZeros_0f7a4) dJ6_numberOfTrailingZeros_0f7a4_16 ?_
    exact ⟨rfl, by decide +kernel⟩
  · refine r_iload_n (Y := YJ6_numberOfTrailingZeros_0f7a4) dJ6_numberOfTrailingZeros_0f7a4_8 rfl ?_
    refine r_if_gt (Y := YJ6_numberOfTrailingZeros_0f7a4) (tgt := 17) dJ6_numberOfTrailingZeros_0f7a4_9 (by decide) (fun c9 => ?_) (fun c9 => absurd c9 (by omega)) 
    refine r_iconst (Y := YJ6_numberOfTrailingZeros_0f7a4) dJ6_numberOfTrailingZeros_0f7a4_17 ?_
    refine r_istore_n (Y := YJ6_numberOfTrailingZeros_0f7a4) dJ6_numberOfTrailingZeros_0f7a4_18 ?_
    refine r_iload_n (Y := YJ6_numberOfTrailingZeros_0f7a4) dJ6_numberOfTrailingZeros_0f7a4_19 rfl ?_
    refine r_ldcw (Y := YJ6_numberOfTrailingZeros_0f7a4) (z := 65536) wc_J6_264 dJ6_numberOfTrailingZeros_0f7a4_20 (by decide) ?_
    refine r_icmp_le (Y := YJ6_numberOfTrailingZeros_0f7a4) (tgt := 34) dJ6_numberOfTrailingZeros_0f7a4_23 (by decide) (fun c23 => ?_) (fun c23 => absurd c23 (by omega)) 
    refine r_iload_n (Y := YJ6_numberOfTrailingZeros_0f7a4) dJ6_numberOfTrailingZeros_0f7a4_34 rfl ?_
    refine r_sipush (Y := YJ6_numberOfTrailingZeros_0f7a4) dJ6_numberOfTrailingZeros_0f7a4_35 ?_
    refine r_icmp_le (Y := YJ6_numberOfTrailingZeros_0f7a4) (tgt := 49) dJ6_numberOfTrailingZeros_0f7a4_38 (by decide) (fun c38 => ?_) (fun c38 => absurd c38 (by omega)) 
    refine r_iload_n (Y := YJ6_numberOfTrailingZeros_0f7a4) dJ6_numberOfTrailingZeros_0f7a4_49 rfl ?_
    refine r_bipush (Y := YJ6_numberOfTrailingZeros_0f7a4) dJ6_numberOfTrailingZeros_0f7a4_50 ?_
    refine r_icmp_le (Y := YJ6_numberOfTrailingZeros_0f7a4) (tgt := 62) dJ6_numberOfTrailingZeros_0f7a4_52 (by decide) (fun c52 => ?_) (fun c52 => absurd c52 (by omega)) 
    refine r_iload_n (Y := YJ6_numberOfTrailingZeros_0f7a4) dJ6_numberOfTrailingZeros_0f7a4_62 rfl ?_
    refine r_iconst (Y := YJ6_numberOfTrailingZeros_0f7a4) dJ6_numberOfTrailingZeros_0f7a4_63 ?_
    refine r_icmp_le (Y := YJ6_numberOfTrailingZeros_0f7a4) (tgt := 74) dJ6_numberOfTrailingZeros_0f7a4_64 (by decide) (fun c64 => ?_) (fun c64 => absurd c64 (by omega)) 
    refine r_iload_n (Y := YJ6_numberOfTrailingZeros_0f7a4) dJ6_numberOfTrailingZeros_0f7a4_74 rfl ?_
    refine r_iload_n (Y := YJ6_numberOfTrailingZeros_0f7a4) dJ6_numberOfTrailingZeros_0f7a4_75 rfl ?_
    refine r_iconst (Y := YJ6_numberOfTrailingZeros_0f7a4) dJ6_numberOfTrailingZeros_0f7a4_76 ?_
    refine r_iushr (Y := YJ6_numberOfTrailingZeros_0f7a4) dJ6_numberOfTrailingZeros_0f7a4_77 ?_
    refine r_iadd (Y := YJ6_numberOfTrailingZeros_0f7a4) dJ6_numberOfTrailingZeros_0f7a4_78 ?_
    refine r_ireturn (Y := YJ6_numberOfTrailingZeros_0f7a4) dJ6_numberOfTrailingZeros_0f7a4_79 ?_
    exact ⟨rfl, by decide +kernel⟩
  · refine r_iload_n (Y := YJ6_numberOfTrailingZeros_0f7a4) dJ6_numberOfTrailingZeros_0f7a4_8 rfl ?_
    refine r_if_gt (Y := YJ6_numberOfTrailingZeros_0f7a4) (tgt := 17) dJ6_numberOfTrailingZeros_0f7a4_9 (by decide) (fun c9 => ?_) (fun c9 => absurd c9 (by omega)) 
    refine r_iconst (Y := YJ6_numberOfTrailingZeros_0f7a4) dJ6_numberOfTrailingZeros_0f7a4_17 ?_
    refine r_istore_n (Y := YJ6_numberOfTrailingZeros_0f7a4) dJ6_numberOfTrailingZeros_0f7a4_18 ?_
    refine r_iload_n (Y := YJ6_numberOfTrailingZeros_0f7a4) dJ6_numberOfTrailingZeros_0f7a4_19 rfl ?_
    refine r_ldcw (Y := YJ6_numberOfTrailingZeros_0f7a4) (z := 65536) wc_J6_264 dJ6_numberOfTrailingZeros_0f7a4_20 (by decide) ?_
    refine r_icmp_le (Y := YJ6_numberOfTrailingZeros_0f7a4) (tgt := 34) dJ6_numberOfTrailingZeros_0f7a4_23 (by decide) (fun c23 => ?_) (fun c23 => absurd c23 (by omega)) 
    refine r_iload_n (Y := YJ6_numberOfTrailingZeros_0f7a4) dJ6_numberOfTrailingZeros_0f7a4_34 rfl ?_
    refine r_sipush (Y := YJ6_numberOfTrailingZeros_0f7a4) dJ6_numberOfTrailingZeros_0f7a4_35 ?_
    refine r_icmp_le (Y := YJ6_numberOfTrailingZeros_0f7a4) (tgt := 49) dJ6_numberOfTrailingZeros_0f7a4_38 (by decide) (fun c38 => ?_) (fun c38 => absurd c38 (by omega)) 
    refine r_iload_n (Y := YJ6_numberOfTrailingZeros_0f7a4) dJ6_numberOfTrailingZeros_0f7a4_49 rfl ?_
    refine r_bipush (Y := YJ6_numberOfTrailingZeros_0f7a4) dJ6_numberOfTrailingZeros_0f7a4_50 ?_
    refine r_icmp_le (Y := YJ6_numberOfTrailingZeros_0f7a4) (tgt := 62) dJ6_numberOfTrailingZeros_0f7a4_52 (by decide) (fun c52 => ?_) (fun c52 => absurd c52 (by omega)) 
    refine r_iload_n (Y := YJ6_numberOfTrailingZeros_0f7a4) dJ6_numberOfTrailingZeros_0f7a4_62 rfl ?_
    refine r_iconst (Y := YJ6_numberOfTrailingZeros_0f7a4) dJ6_numberOfTrailingZeros_0f7a4_63 ?_
    refine r_icmp_le (Y := YJ6_numberOfTrailingZeros_0f7a4) (tgt := 74) dJ6_numberOfTrailingZeros_0f7a4_64 (by decide) (fun c64 => ?_) (fun c64 => absurd c64 (by omega)) 
    refine r_iload_n (Y := YJ6_numberOfTrailingZeros_0f7a4) dJ6_numberOfTrailingZeros_0f7a4_74 rfl ?_
    refine r_iload_n (Y := YJ6_numberOfTrailingZeros_0f7a4) dJ6_numberOfTrailingZeros_0f7a4_75 rfl ?_
    refine r_iconst (Y := YJ6_numberOfTrailingZeros_0f7a4) dJ6_numberOfTrailingZeros_0f7a4_76 ?_
    refine r_iushr (Y := YJ6_numberOfTrailingZeros_0f7a4) dJ6_numberOfTrailingZeros_0f7a4_77 ?_
    refine r_iadd (Y := YJ6_numberOfTrailingZeros_0f7a4) dJ6_numberOfTrailingZeros_0f7a4_78 ?_
    refine r_ireturn (Y := YJ6_numberOfTrailingZeros_0f7a4) dJ6_numberOfTrailingZeros_0f7a4_79 ?_
    exact ⟨rfl, by decide +kernel⟩
  · refine r_iload_n (Y := YJ6_numberOfTrailingZeros_0f7a4) dJ6_numberOfTrailingZeros_0f7a4_8 rfl ?_
    refine r_if_gt (Y := YJ6_numberOfTrailingZeros_0f7a4) (tgt := 17) dJ6_numberOfTrailingZeros_0f7a4_9 (by decide) (fun c9 => ?_) (fun c9 => absurd c9 (by omega)) 
    refine r_iconst (Y := YJ6_numberOfTrailingZeros_0f7a4) dJ6_numberOfTrailingZeros_0f7a4_17 ?_
    refine r_istore_n (Y := YJ6_numberOfTrailingZeros_0f7a4) dJ6_numberOfTrailingZeros_0f7a4_18 ?_
    refine r_iload_n (Y := YJ6_numberOfTrailingZeros_0f7a4) dJ6_numberOfTrailingZeros_0f7a4_19 rfl ?_
    refine r_ldcw (Y := YJ6_numberOfTrailingZeros_0f7a4) (z := 65536) wc_J6_264 dJ6_numberOfTrailingZeros_0f7a4_20 (by decide) ?_
    refine r_icmp_le (Y := YJ6_numberOfTrailingZeros_0f7a4) (tgt := 34) dJ6_numberOfTrailingZeros_0f7a4_23 (by decide) (fun c23 => ?_) (fun c23 => absurd c23 (by omega)) 
    refine r_iload_n (Y := YJ6_numberOfTrailingZeros_0f7a4) dJ6_numberOfTrailingZeros_0f7a4_34 rfl ?_
    refine r_sipush (Y := YJ6_numberOfTrailingZeros_0f7a4) dJ6_numberOfTrailingZeros_0f7a4_35 ?_
    refine r_icmp_le (Y := YJ6_numberOfTrailingZeros_0f7a4) (tgt := 49) dJ6_numberOfTrailingZeros_0f7a4_38 (by decide) (fun c38 => ?_) (fun c38 => absurd c38 (by omega)) 
    refine r_iload_n (Y := YJ6_numberOfTrailingZeros_0f7a4) dJ6_numberOfTrailingZeros_0f7a4_49 rfl ?_
    refine r_bipush (Y := YJ6_numberOfTrailingZeros_0f7a4) dJ6_numberOfTrailingZeros_0f7a4_50 ?_
    refine r_icmp_le (Y := YJ6_numberOfTrailingZeros_0f7a4) (tgt := 62) dJ6_numberOfTrailingZeros_0f7a4_52 (by decide) (fun c52 => ?_) (fun c52 => absurd c52 (by omega)) 
    refine r_iload_n (Y := YJ6_numberOfTrailingZeros_0f7a4) dJ6_numberOfTrailingZeros_0f7a4_62 rfl ?_
    refine r_iconst (Y := YJ6_numberOfTrailingZeros_0f7a4) dJ6_numberOfTrailingZeros_0f7a4_63 ?_
    refine r_icmp_le (Y := YJ6_numberOfTrailingZeros_0f7a4) (tgt := 74) dJ6_numberOfTrailingZeros_0f7a4_64 (by decide) (fun c64 => absurd c64 (by omega)) (fun c64 => ?_) 
    refine r_iinc (Y := YJ6_numberOfTrailingZeros_0f7a4) dJ6_numberOfTrailingZeros_0f7a4_67 rfl ?_
    refine r_iload_n (Y := YJ6_numberOfTrailingZeros_0f7a4) dJ6_numberOfTrailingZeros_0f7a4_70 rfl ?_
    refine r_iconst (Y := YJ6_numberOfTrailingZeros_0f7a4) dJ6_numberOfTrailingZeros_0f7a4_71 ?_
    refine r_iushr (Y := YJ6_numberOfTrailingZeros_0f7a4) dJ6_numberOfTrailingZeros_0f7a4_72 ?_
    refine r_istore_n (Y := YJ6_numberOfTrailingZeros_0f7a4) dJ6_numberOfTrailingZeros_0f7a4_73 ?_
    refine r_iload_n (Y := YJ6_numberOfTrailingZeros_0f7a4) dJ6_numberOfTrailingZeros_0f7a4_74 rfl ?_
    refine r_iload_n (Y := YJ6_numberOfTrailingZeros_0f7a4) dJ6_numberOfTrailingZeros_0f7a4_75 rfl ?_
    refine r_iconst (Y := YJ6_numberOfTrailingZeros_0f7a4) dJ6_numberOfTrailingZeros_0f7a4_76 ?_
    refine r_iushr (Y := YJ6_numberOfTrailingZeros_0f7a4) dJ6_numberOfTrailingZeros_0f7a4_77 ?_
    refine r_iadd (Y := YJ6_numberOfTrailingZeros_0f7a4) dJ6_numberOfTrailingZeros_0f7a4_78 ?_
    refine r_ireturn (Y := YJ6_numberOfTrailingZeros_0f7a4) dJ6_numberOfTrailingZeros_0f7a4_79 ?_
    exact ⟨rfl, by decide +kernel⟩
  · refine r_iload_n (Y := YJ6_numberOfTrailingZeros_0f7a4) dJ6_numberOfTrailingZeros_0f7a4_8 rfl ?_
    refine r_if_gt (Y := YJ6_numberOfTrailingZeros_0f7a4) (tgt := 17) dJ6_numberOfTrailingZeros_0f7a4_9 (by decide) (fun c9 => ?_) (fun c9 => absurd c9 (by omega)) 
    refine r_iconst (Y := YJ6_numberOfTrailingZeros_0f7a4) dJ6_numberOfTrailingZeros_0f7a4_17 ?_
    refine r_istore_n (Y := YJ6_numberOfTrailingZeros_0f7a4) dJ6_numberOfTrailingZeros_0f7a4_18 ?_
    refine r_iload_n (Y := YJ6_numberOfTrailingZeros_0f7a4) dJ6_numberOfTrailingZeros_0f7a4_19 rfl ?_
    refine r_ldcw (Y := YJ6_numberOfTrailingZeros_0f7a4) (z := 65536) wc_J6_264 dJ6_numberOfTrailingZeros_0f7a4_20 (by decide) ?_
    refine r_icmp_le (Y := YJ6_numberOfTrailingZeros_0f7a4) (tgt := 34) dJ6_numberOfTrailingZeros_0f7a4_23 (by decide) (fun c23 => ?_) (fun c23 => absurd c23 (by omega)) 
    refine r_iload_n (Y := YJ6_numberOfTrailingZeros_0f7a4) dJ6_numberOfTrailingZeros_0f7a4_34 rfl ?_
    refine r_sipush (Y := YJ6_numberOfTrailingZeros_0f7a4) dJ6_numberOfTrailingZeros_0f7a4_35 ?_
    refine r_icmp_le (Y := YJ6_numberOfTrailingZeros_0f7a4) (tgt := 49) dJ6_numberOfTrailingZeros_0f7a4_38 (by decide) (fun c38 => ?_) (fun c38 => absurd c38 (by omega)) 
    refine r_iload_n (Y := YJ6_numberOfTrailingZeros_0f7a4) dJ6_numberOfTrailingZeros_0f7a4_49 rfl ?_
    refine r_bipush (Y := YJ6_numberOfTrailingZeros_0f7a4) dJ6_numberOfTrailingZeros_0f7a4_50 ?_
    refine r_icmp_le (Y := YJ6_numberOfTrailingZeros_0f7a4) (tgt := 62) dJ6_numberOfTrailingZeros_0f7a4_52 (by decide) (fun c52 => ?_) (fun c52 => absurd c52 (by omega)) 
    refine r_iload_n (Y := YJ6_numberOfTrailingZeros_0f7a4) dJ6_numberOfTrailingZeros_0f7a4_62 rfl ?_
    refine r_iconst (Y := YJ6_numberOfTrailingZeros_0f7a4) dJ6_numberOfTrailingZeros_0f7a4_63 ?_
    refine r_icmp_le (Y := YJ6_numberOfTrailingZeros_0f7a4) (tgt := 74) dJ6_numberOfTrailingZeros_0f7a4_64 (by decide) (fun c64 => absurd c64 (by omega)) (fun c64 => ?_) 
    refine r_iinc (Y := YJ6_numberOfTrailingZeros_0f7a4) dJ6_numberOfTrailingZeros_0f7a4_67 rfl ?_
    refine r_iload_n (Y := YJ6_numberOfTrailingZeros_0f7a4) dJ6_numberOfTrailingZeros_0f7a4_70 rfl ?_
    refine r_iconst (Y := YJ6_numberOfTrailingZeros_0f7a4) dJ6_numberOfTrailingZeros_0f7a4_71 ?_
    refine r_iushr (Y := YJ6_numberOfTrailingZeros_0f7a4) dJ6_numberOfTrailingZeros_0f7a4_72 ?_
    refine r_istore_n (Y := YJ6_numberOfTrailingZeros_0f7a4) dJ6_numberOfTrailingZeros_0f7a4_73 ?_
    refine r_iload_n (Y := YJ6_numberOfTrailingZeros_0f7a4) dJ6_numberOfTrailingZeros_0f7a4_74 rfl ?_
    refine r_iload_n (Y := YJ6_numberOfTrailingZeros_0f7a4) dJ6_numberOfTrailingZeros_0f7a4_75 rfl ?_
    refine r_iconst (Y := YJ6_numberOfTrailingZeros_0f7a4) dJ6_numberOfTrailingZeros_0f7a4_76 ?_
    refine r_iushr (Y := YJ6_numberOfTrailingZeros_0f7a4) dJ6_numberOfTrailingZeros_0f7a4_77 ?_
    refine r_iadd (Y := YJ6_numberOfTrailingZeros_0f7a4) dJ6_numberOfTrailingZeros_0f7a4_78 ?_
    refine r_ireturn (Y := YJ6_numberOfTrailingZeros_0f7a4) dJ6_numberOfTrailingZeros_0f7a4_79 ?_
    exact ⟨rfl, by decide +kernel⟩
  · refine r_iload_n (Y := YJ6_numberOfTrailingZeros_0f7a4) dJ6_numberOfTrailingZeros_0f7a4_8 rfl ?_
    refine r_if_gt (Y := YJ6_numberOfTrailingZeros_0f7a4) (tgt := 17) dJ6_numberOfTrailingZeros_0f7a4_9 (by decide) (fun c9 => ?_) (fun c9 => absurd c9 (by omega)) 
    refine r_iconst (Y := YJ6_numberOfTrailingZeros_0f7a4) dJ6_numberOfTrailingZeros_0f7a4_17 ?_
    refine r_istore_n (Y := YJ6_numberOfTrailingZeros_0f7a4) dJ6_numberOfTrailingZeros_0f7a4_18 ?_
    refine r_iload_n (Y := YJ6_numberOfTrailingZeros_0f7a4) dJ6_numberOfTrailingZeros_0f7a4_19 rfl ?_
    refine r_ldcw (Y := YJ6_numberOfTrailingZeros_0f7a4) (z := 65536) wc_J6_264 dJ6_numberOfTrailingZeros_0f7a4_20 (by decide) ?_
    refine r_icmp_le (Y := YJ6_numberOfTrailingZeros_0f7a4) (tgt := 34) dJ6_numberOfTrailingZeros_0f7a4_23 (by decide) (fun c23 => ?_) (fun c23 => absurd c23 (by omega)) 
    refine r_iload_n (Y := YJ6_numberOfTrailingZeros_0f7a4) dJ6_numberOfTrailingZeros_0f7a4_34 rfl ?_
    refine r_sipush (Y := YJ6_numberOfTrailingZeros_0f7a4) dJ6_numberOfTrailingZeros_0f7a4_35 ?_
    refine r_icmp_le (Y := YJ6_numberOfTrailingZeros_0f7a4) (tgt := 49) dJ6_numberOfTrailingZeros_0f7a4_38 (by decide) (fun c38 => ?_) (fun c38 => absurd c38 (by omega)) 
    refine r_iload_n (Y := YJ6_numberOfTrailingZeros_0f7a4) dJ6_numberOfTrailingZeros_0f7a4_49 rfl ?_
    refine r_bipush (Y := YJ6_numberOfTrailingZeros_0f7a4) dJ6_numberOfTrailingZeros_0f7a4_50 ?_
    refine r_icmp_le (Y := YJ6_numberOfTrailingZeros_0f7a4) (tgt := 62) dJ6_numberOfTrailingZeros_0f7a4_52 (by decide) (fun c52 => absurd c52 (by omega)) (fun c52 => ?_) 
    refine r_iinc (Y := YJ6_numberOfTrailingZeros_0f7a4) dJ6_numberOfTrailingZeros_0f7a4_55 rfl ?_
    refine r_iload_n (Y := YJ6_numberOfTrailingZeros_0f7a4) dJ6_numberOfTrailingZeros_0f7a4_58 rfl ?_
    refine r_iconst (Y := YJ6_numberOfTrailingZeros_0f7a4) dJ6_numberOfTrailingZeros_0f7a4_59 ?_
    refine r_iushr (Y := YJ6_numberOfTrailingZeros_0f7a4) dJ6_numberOfTrailingZeros_0f7a4_60 ?_
    refine r_istore_n (Y := YJ6_numberOfTrailingZeros_0f7a4) dJ6_numberOfTrailingZeros_0f7a4_61 ?_
    rw [bus_31]
    refine r_iload_n (Y := YJ6_numberOfTrailingZeros_0f7a4) dJ6_numberOfTrailingZeros_0f7a4_62 rfl ?_
    refine r_iconst (Y := YJ6_numberOfTrailingZeros_0f7a4) dJ6_numberOfTrailingZeros_0f7a4_63 ?_
    refine r_icmp_le (Y := YJ6_numberOfTrailingZeros_0f7a4) (tgt := 74) dJ6_numberOfTrailingZeros_0f7a4_64 (by decide) (fun c64 => ?_) (fun c64 => absurd c64 (by omega)) 
    refine r_iload_n (Y := YJ6_numberOfTrailingZeros_0f7a4) dJ6_numberOfTrailingZeros_0f7a4_74 rfl ?_
    refine r_iload_n (Y := YJ6_numberOfTrailingZeros_0f7a4) dJ6_numberOfTrailingZeros_0f7a4_75 rfl ?_
    refine r_iconst (Y := YJ6_numberOfTrailingZeros_0f7a4) dJ6_numberOfTrailingZeros_0f7a4_76 ?_
    refine r_iushr (Y := YJ6_numberOfTrailingZeros_0f7a4) dJ6_numberOfTrailingZeros_0f7a4_77 ?_
    refine r_iadd (Y := YJ6_numberOfTrailingZeros_0f7a4) dJ6_numberOfTrailingZeros_0f7a4_78 ?_
    refine r_ireturn (Y := YJ6_numberOfTrailingZeros_0f7a4) dJ6_numberOfTrailingZeros_0f7a4_79 ?_
    exact ⟨rfl, by decide +kernel⟩
set_option maxRecDepth 20000 in
theorem c_X9_in (σ : ab_S) (v lo hi : Int) (h1 : -9223372036854775808 ≤ v) (h2 : v ≤ 9223372036854775807) (h3 : -9223372036854775808 ≤ lo) (h4 : lo ≤ 9223372036854775807) (h5 : -9223372036854775808 ≤ hi) (h6 : hi ≤ 9223372036854775807) : C2 YX9_in 0 σ [lgv v, lgv lo, lgv hi] (PI fun σ' z => σ' = σ ∧ z = if lo ≤ v ∧ v ≤ hi then 1 else 0) := by
  refine C2.of (by decide +kernel) (Nat.le_of_ble_eq_true rfl) ?_
  refine r_lload_n (Y := YX9_in) dX9_in_0 rfl ?_
  refine r_lload_n (Y := YX9_in) dX9_in_1 rfl ?_
  refine r_lcmp (Y := YX9_in) dX9_in_2 ?_
  have hl := lcm_cases v lo
  refine r_if_lt (Y := YX9_in) (tgt := 17) dX9_in_3 (by decide) (fun c3 => ?_) (fun c3 => ?_) 
  · refine r_iconst (Y := YX9_in) dX9_in_17 ?_
    refine r_zreturn (Y := YX9_in) dX9_in_18 (by decide) ?_
    exact ⟨rfl, by first | rw [if_pos (by omega)] | rw [if_neg (by omega)]⟩
  · refine r_lload_n (Y := YX9_in) dX9_in_6 rfl ?_
    refine r_lload (Y := YX9_in) dX9_in_7 rfl ?_
    refine r_lcmp (Y := YX9_in) dX9_in_9 ?_
    have hl2 := lcm_cases v hi
    refine r_if_gt (Y := YX9_in) (tgt := 17) dX9_in_10 (by decide) (fun c10 => ?_) (fun c10 => ?_) 
    · refine r_iconst (Y := YX9_in) dX9_in_17 ?_
      refine r_zreturn (Y := YX9_in) dX9_in_18 (by decide) ?_
      exact ⟨rfl, by first | rw [if_pos (by omega)] | rw [if_neg (by omega)]⟩
    · refine r_iconst (Y := YX9_in) dX9_in_13 ?_
      refine r_goto (Y := YX9_in) (tgt := 18) dX9_in_14 (by decide) ?_
      refine r_zreturn (Y := YX9_in) dX9_in_18 (by decide) ?_
      exact ⟨rfl, by first | rw [if_pos (by omega)] | rw [if_neg (by omega)]⟩
set_option maxRecDepth 20000 in
theorem c_X9_isMonk (σ : ab_S) (x : Int) (h1 : -2147483648 ≤ x) (h2 : x ≤ 2147483647) : C2 YX9_isMonk 1 σ [iv x] (PI fun σ' z => σ' = σ ∧ z = if 0 ≤ x ∧ x ≤ 5 then 1 else 0) := by
  refine C2.of (by decide +kernel) (Nat.le_of_ble_eq_true rfl) ?_
  refine r_iload_n (Y := YX9_isMonk) dX9_isMonk_0 rfl ?_
  refine r_i2l (Y := YX9_isMonk) dX9_isMonk_1 ?_
  refine r_lconst (Y := YX9_isMonk) (v := 0) dX9_isMonk_2 rfl ?_
  refine r_ldc2 (Y := YX9_isMonk) (z := 5) wc_X9_93 dX9_isMonk_3 (by decide) ?_
  refine r_iS3I (Y := YX9_isMonk) ms_X9_95 dX9_isMonk_6 (c_X9_in _ _ _ _ (by omega) (by omega) (by omega) (by omega) (by omega) (by omega)) (fun σ6 z6 h6 => ?_)
  obtain ⟨rfl, rfl⟩ := h6
  refine r_zreturn (Y := YX9_isMonk) dX9_isMonk_9 (by by_cases h : 0 ≤ x ∧ x ≤ 5 <;> simp [h]) ?_
  exact ⟨rfl, rfl⟩
set_option maxRecDepth 20000 in
theorem c_X9_isRope (σ : ab_S) (x : Int) (h1 : -2147483648 ≤ x) (h2 : x ≤ 2147483647) : C2 YX9_isRope 1 σ [iv x] (PI fun σ' z => σ' = σ ∧ z = if 0 ≤ x ∧ x ≤ 3 then 1 else 0) := by
  refine C2.of (by decide +kernel) (Nat.le_of_ble_eq_true rfl) ?_
  refine r_iload_n (Y := YX9_isRope) dX9_isRope_0 rfl ?_
  refine r_i2l (Y := YX9_isRope) dX9_isRope_1 ?_
  refine r_lconst (Y := YX9_isRope) (v := 0) dX9_isRope_2 rfl ?_
  refine r_ldc2 (Y := YX9_isRope) (z := 3) wc_X9_99 dX9_isRope_3 (by decide) ?_
  refine r_iS3I (Y := YX9_isRope) ms_X9_95 dX9_isRope_6 (c_X9_in _ _ _ _ (by omega) (by omega) (by omega) (by omega) (by omega) (by omega)) (fun σ6 z6 h6 => ?_)
  obtain ⟨rfl, rfl⟩ := h6
  refine r_zreturn (Y := YX9_isRope) dX9_isRope_9 (by by_cases h : 0 ≤ x ∧ x ≤ 3 <;> simp [h]) ?_
  exact ⟨rfl, rfl⟩
theorem ones_y : ∀ n : Nat, n < 64 → 1 ≤ n → 0 ≤ ban (n : Int) ((n : Int) - 1) ∧ ban (n : Int) ((n : Int) - 1) < n ∧ pc6 n = 1 + pc6 (ban (n : Int) ((n : Int) - 1)) := by decide +kernel
set_option maxRecDepth 20000 in
theorem c_X9_ones (σ : ab_S) (x : Int) (h1 : 0 ≤ x) (h2 : x < 64) : C2 YX9_ones 0 σ [iv x] (PI fun σ' z => σ' = σ ∧ z = pc6 x) := by
  refine C2.of (by decide +kernel) (Nat.le_of_ble_eq_true rfl) ?_
  refine r_iconst (Y := YX9_ones) dX9_ones_0 ?_
  refine r_istore_n (Y := YX9_ones) dX9_ones_1 ?_
  refine r_iload_n (Y := YX9_ones) dX9_ones_2 rfl ?_
  refine r_istore_n (Y := YX9_ones) dX9_ones_3 ?_
  suffices hloop : ∀ (k : Nat) (y c : Int), 0 ≤ y → y < 64 → y < k → c + pc6 y = pc6 x → R2 YX9_ones 0 σ 4 [some (iv x), some (iv c), some (iv y)] [] (PI fun σ' z => σ' = σ ∧ z = pc6 x) from
    R2.weak (by repeat first | exact trivial | refine And.intro rfl ?_) (hloop 64 x 0 h1 h2 (by omega) (by omega))
  intro k
  induction k with
  | zero => intro y c a1 a2 a3; omega
  | succ k ih =>
    intro y c a1 a2 a3 a4
    refine r_iload_n (Y := YX9_ones) dX9_ones_4 rfl ?_
    refine r_if_eq (Y := YX9_ones) (tgt := 20) dX9_ones_5 (by decide) (fun c5 => ?_) (fun c5 => ?_) 
    · refine r_iload_n (Y := YX9_ones) dX9_ones_20 rfl ?_
      refine r_ireturn (Y := YX9_ones) dX9_ones_21 ?_
      refine ⟨rfl, ?_⟩
      subst c5
      have : pc6 0 = 0 := by decide
      omega
    · refine r_iinc (Y := YX9_ones) dX9_ones_8 rfl ?_
      refine r_iload_n (Y := YX9_ones) dX9_ones_11 rfl ?_
      refine r_iload_n (Y := YX9_ones) dX9_ones_12 rfl ?_
      refine r_iconst (Y := YX9_ones) dX9_ones_13 ?_
      refine r_isub (Y := YX9_ones) dX9_ones_14 ?_
      refine r_iand (Y := YX9_ones) dX9_ones_15 ?_
      refine r_istore_n (Y := YX9_ones) dX9_ones_16 ?_
      refine r_goto (Y := YX9_ones) (tgt := 4) dX9_ones_17 (by decide) ?_
      have h9 := ones_y y.toNat (by omega) (by omega)
      rw [show ((y.toNat : Nat) : Int) = y by omega] at h9
      exact R2.weak (by repeat first | exact trivial | refine And.intro rfl ?_) (ih _ _ (by omega) (by omega) (by omega) (by omega))
theorem gcd_half {u l n : Nat} (h0 : 0 < l) (h1 : l ≤ u) (h2 : u * l < 2 ^ (n + 1)) : l * (u % l) < 2 ^ n := by
  have a1 : u % l < l := Nat.mod_lt _ h0
  have a2 : l * (u / l) + u % l = u := Nat.div_add_mod u l
  have a3 : 1 ≤ u / l := (Nat.one_le_div_iff h0).mpr h1
  have a4 : l * 1 ≤ l * (u / l) := Nat.mul_le_mul_left l a3
  have a5 : 2 * (u % l) ≤ u := by omega
  have a6 : l * (2 * (u % l)) ≤ l * u := Nat.mul_le_mul_left l a5
  have a7 : l * (2 * (u % l)) = 2 * (l * (u % l)) := by rw [Nat.mul_left_comm]
  have a8 : l * u = u * l := Nat.mul_comm l u
  rw [Nat.pow_succ] at h2
  omega
theorem prod_bd {a b : Nat} (h2 : a ≤ 30000) (h1 : b ≤ a) : a * b < 2 ^ 30 := by
  have h3 : a * b ≤ 30000 * 30000 := Nat.mul_le_mul h2 (by omega)
  omega
set_option maxRecDepth 20000 in
theorem c_X8_commonDivisor (σ : ab_S) (u0 l0 : Nat) (h0 : 0 < u0) (h1 : l0 ≤ u0) (h2 : u0 ≤ 30000) : C2 YX8_commonDivisor 1 σ [iv u0, iv l0] (PI fun σ' z => σ' = σ ∧ z = (Nat.gcd u0 l0 : Nat)) := by
  refine C2.of (by decide +kernel) (Nat.le_of_ble_eq_true rfl) ?_
  refine r_iload_n (Y := YX8_commonDivisor) dX8_commonDivisor_0 rfl ?_
  refine r_istore_n (Y := YX8_commonDivisor) dX8_commonDivisor_1 ?_
  refine r_iload_n (Y := YX8_commonDivisor) dX8_commonDivisor_2 rfl ?_
  refine r_istore_n (Y := YX8_commonDivisor) dX8_commonDivisor_3 ?_
  refine r_iconst (Y := YX8_commonDivisor) dX8_commonDivisor_4 ?_
  refine r_istore (Y := YX8_commonDivisor) dX8_commonDivisor_5 ?_
  suffices hloop : ∀ (k n s u l : Nat), s + n ≤ 60 → n ≤ k → u ≤ 30000 → l ≤ u → 0 < u → u * l < 2 ^ n → Nat.gcd u l = Nat.gcd u0 l0 → R2 YX8_commonDivisor 1 σ 7 [some (iv u0), some (iv l0), some (iv u), some (iv l), some (iv s), none] [] (PI fun σ' z => σ' = σ ∧ z = (Nat.gcd u0 l0 : Nat)) from
    R2.weak (by repeat first | exact trivial | refine And.intro rfl ?_) (hloop 30 30 0 u0 l0 (by omega) (by omega) h2 h1 h0 (prod_bd h2 h1) rfl)
  intro k
  induction k with
  | zero =>
    intro n s u l b1 b2 b3 b4 b5 b6 b7
    have hn : n = 0 := by omega
    subst hn
    have hl : l = 0 := by
      rcases Nat.eq_zero_or_pos l with h | h
      · exact h
      · have : 0 < u * l := Nat.mul_pos b5 h
        omega
    subst hl
    have hg : u = Nat.gcd u0 l0 := by rw [← b7, Nat.gcd_zero_right]
    refine r_iload (Y := YX8_commonDivisor) dX8_commonDivisor_7 rfl ?_
    refine r_bipush (Y := YX8_commonDivisor) dX8_commonDivisor_9 ?_
    refine r_icmp_ge (Y := YX8_commonDivisor) (tgt := 34) dX8_commonDivisor_11 (by decide) (fun c11 => absurd c11 (by omega)) (fun c11 => ?_) 
    refine r_iload_n (Y := YX8_commonDivisor) dX8_commonDivisor_14 rfl ?_
    refine r_if_eq (Y := YX8_commonDivisor) (tgt := 34) dX8_commonDivisor_15 (by decide) (fun c15 => ?_) (fun c15 => absurd c15 (by omega)) 
    refine r_iconst (Y := YX8_commonDivisor) dX8_commonDivisor_34 ?_
    refine r_iload_n (Y := YX8_commonDivisor) dX8_commonDivisor_35 rfl ?_
    refine r_iS2I (Y := YX8_commonDivisor) ms_X8_229 dX8_commonDivisor_36 (c_J9_max_7cf53 _ _ _ (by omega) (by omega) (by omega) (by omega)) (fun σ36 z36 h36 => ?_)
    obtain ⟨rfl, rfl⟩ := h36
    refine r_ireturn (Y := YX8_commonDivisor) dX8_commonDivisor_39 ?_
    exact ⟨rfl, by omega⟩
  | succ k ih =>
    intro n s u l b1 b2 b3 b4 b5 b6 b7
    refine r_iload (Y := YX8_commonDivisor) dX8_commonDivisor_7 rfl ?_
    refine r_bipush (Y := YX8_commonDivisor) dX8_commonDivisor_9 ?_
    refine r_icmp_ge (Y := YX8_commonDivisor) (tgt := 34) dX8_commonDivisor_11 (by decide) (fun c11 => absurd c11 (by omega)) (fun c11 => ?_) 
    refine r_iload_n (Y := YX8_commonDivisor) dX8_commonDivisor_14 rfl ?_
    refine r_if_eq (Y := YX8_commonDivisor) (tgt := 34) dX8_commonDivisor_15 (by decide) (fun c15 => ?_) (fun c15 => ?_) 
    · have hl : l = 0 := by omega
      subst hl
      have hg : u = Nat.gcd u0 l0 := by rw [← b7, Nat.gcd_zero_right]
      refine r_iconst (Y := YX8_commonDivisor) dX8_commonDivisor_34 ?_
      refine r_iload_n (Y := YX8_commonDivisor) dX8_commonDivisor_35 rfl ?_
      refine r_iS2I (Y := YX8_commonDivisor) ms_X8_229 dX8_commonDivisor_36 (c_J9_max_7cf53 _ _ _ (by omega) (by omega) (by omega) (by omega)) (fun σ36 z36 h36 => ?_)
      obtain ⟨rfl, rfl⟩ := h36
      refine r_ireturn (Y := YX8_commonDivisor) dX8_commonDivisor_39 ?_
      exact ⟨rfl, by omega⟩
    · have hl0 : 0 < l := by omega
      refine r_iload_n (Y := YX8_commonDivisor) dX8_commonDivisor_18 rfl ?_
      refine r_iload_n (Y := YX8_commonDivisor) dX8_commonDivisor_19 rfl ?_
      refine r_irem (Y := YX8_commonDivisor) dX8_commonDivisor_20 ?_
      refine r_istore (Y := YX8_commonDivisor) dX8_commonDivisor_21 ?_
      refine r_iload_n (Y := YX8_commonDivisor) dX8_commonDivisor_23 rfl ?_
      refine r_istore_n (Y := YX8_commonDivisor) dX8_commonDivisor_24 ?_
      refine r_iload (Y := YX8_commonDivisor) dX8_commonDivisor_25 rfl ?_
      refine r_istore_n (Y := YX8_commonDivisor) dX8_commonDivisor_27 ?_
      refine r_iinc (Y := YX8_commonDivisor) dX8_commonDivisor_28 rfl ?_
      refine r_goto (Y := YX8_commonDivisor) (tgt := 7) dX8_commonDivisor_31 (by decide) ?_
      have e9 : (u : Int).tmod (l : Int) = ((u % l : Nat) : Int) := by rw [Int.tmod_eq_emod_of_nonneg (by omega)]; rfl
      rw [e9]
      have hml : u % l < l := Nat.mod_lt _ hl0
      obtain ⟨n2, rfl⟩ : ∃ n2, n = n2 + 1 := by
        cases n with
        | zero => have : 0 < u * l := Nat.mul_pos b5 hl0
                  omega
        | succ n => exact ⟨n, rfl⟩
      exact R2.weak (by repeat first | exact trivial | refine And.intro rfl ?_) (ih n2 (s + 1) l (u % l) (by omega) (by omega) (by omega) (by omega) hl0 (gcd_half hl0 b4 b6) (by rw [← b7, Nat.gcd_comm l (u % l), ← Nat.gcd_rec, Nat.gcd_comm]))
/-- how many of the first n are as strong as w; the greatest load -/
def cge (P : Int → Int) (w : Int) : Nat → Int
  | 0 => 0
  | n + 1 => cge P w n + if w ≤ P (n : Int) then 1 else 0
def glr (P : Int → Int) : Nat → Int
  | 0 => 0
  | n + 1 => max (glr P n) (cge P (P (n : Int)) 4 * P (n : Int))
def gl (P : Int → Int) : Int := glr P 4
theorem cge_bd (P : Int → Int) (w : Int) : ∀ n : Nat, 0 ≤ cge P w n ∧ cge P w n ≤ n
  | 0 => by simp [cge]
  | n + 1 => by
    have := cge_bd P w n
    show 0 ≤ cge P w n + (if w ≤ P (n : Int) then 1 else 0) ∧ cge P w n + (if w ≤ P (n : Int) then 1 else 0) ≤ ((n + 1 : Nat) : Int)
    split <;> omega
theorem mul_bd {h w H V : Int} (h1 : 0 ≤ h) (h2 : h ≤ H) (h3 : 0 ≤ w) (h4 : w ≤ V) : 0 ≤ h * w ∧ h * w ≤ H * V :=
  ⟨Int.mul_nonneg h1 h3, Int.mul_le_mul h2 h4 h3 (by omega)⟩
theorem glr_bd {P : Int → Int} (hp : ∀ i : Int, 0 ≤ i → i < 4 → 0 ≤ P i ∧ P i ≤ 100000) : ∀ n : Nat, n ≤ 4 → 0 ≤ glr P n ∧ glr P n ≤ 400000
  | 0, _ => by simp [glr]
  | n + 1, hn => by
    have h1 := glr_bd hp n (by omega)
    have h2 := hp n (by omega) (by omega)
    have h3 := cge_bd P (P n) 4
    have h4 := mul_bd h3.1 h3.2 h2.1 h2.2
    show 0 ≤ max (glr P n) (cge P (P (n : Int)) 4 * P (n : Int)) ∧ max (glr P n) (cge P (P (n : Int)) 4 * P (n : Int)) ≤ 400000
    omega
set_option maxRecDepth 20000 in
theorem c_X8_greatestLoad (σ : ab_S) (a : Int) (ha : kd_ a 10 4) (hp : ∀ i : Int, 0 ≤ i → i < 4 → 0 ≤ σ a i ∧ σ a i ≤ 100000) : C2 YX8_greatestLoad 1 σ [rf a] (PI fun σ' z => σ' = σ ∧ z = gl (σ a)) := by
  refine C2.of (by decide +kernel) (Nat.le_of_ble_eq_true rfl) ?_
  refine r_iconst (Y := YX8_greatestLoad) dX8_greatestLoad_0 ?_
  refine r_istore_n (Y := YX8_greatestLoad) dX8_greatestLoad_1 ?_
  refine r_aload_n (Y := YX8_greatestLoad) dX8_greatestLoad_2 rfl ?_
  refine r_astore_n (Y := YX8_greatestLoad) dX8_greatestLoad_3 ?_
  refine r_aload_n (Y := YX8_greatestLoad) dX8_greatestLoad_4 rfl ?_
  refine r_alen (Y := YX8_greatestLoad) dX8_greatestLoad_5 rfl ?_
  refine r_istore_n (Y := YX8_greatestLoad) dX8_greatestLoad_6 ?_
  refine r_iconst (Y := YX8_greatestLoad) dX8_greatestLoad_7 ?_
  refine r_istore (Y := YX8_greatestLoad) dX8_greatestLoad_8 ?_
  suffices hloop : ∀ (k i : Nat) (g : Int), i + k = 4 → g = glr (σ a) i → R2 YX8_greatestLoad 1 σ 10 [some (rf a), some (iv g), some (rf a), some (iv 4), some (iv i), none, none, none, none, none, none] [] (PI fun σ' z => σ' = σ ∧ z = gl (σ a)) from
    R2.weak (by repeat first | exact trivial | refine And.intro rfl ?_) (hloop 4 0 0 rfl rfl)
  intro k
  induction k with
  | zero =>
    intro i g e1 e2
    have hi : i = 4 := by omega
    subst hi
    refine r_iload (Y := YX8_greatestLoad) dX8_greatestLoad_10 rfl ?_
    refine r_iload_n (Y := YX8_greatestLoad) dX8_greatestLoad_12 rfl ?_
    refine r_icmp_ge (Y := YX8_greatestLoad) (tgt := 82) dX8_greatestLoad_13 (by decide) (fun c13 => ?_) (fun c13 => absurd c13 (by omega)) 
    refine r_iload_n (Y := YX8_greatestLoad) dX8_greatestLoad_82 rfl ?_
    refine r_ireturn (Y := YX8_greatestLoad) dX8_greatestLoad_83 ?_
    exact ⟨rfl, e2⟩
  | succ k ih =>
    intro i g e1 e2
    have hgb := glr_bd hp i (by omega)
    have hpi := hp i (by omega) (by omega)
    refine r_iload (Y := YX8_greatestLoad) dX8_greatestLoad_10 rfl ?_
    refine r_iload_n (Y := YX8_greatestLoad) dX8_greatestLoad_12 rfl ?_
    refine r_icmp_ge (Y := YX8_greatestLoad) (tgt := 82) dX8_greatestLoad_13 (by decide) (fun c13 => absurd c13 (by omega)) (fun c13 => ?_) 
    refine r_aload_n (Y := YX8_greatestLoad) dX8_greatestLoad_16 rfl ?_
    refine r_iload (Y := YX8_greatestLoad) dX8_greatestLoad_17 rfl ?_
    refine r_iaload (Y := YX8_greatestLoad) dX8_greatestLoad_19 ?_
    refine r_istore (Y := YX8_greatestLoad) dX8_greatestLoad_20 ?_
    refine r_iconst (Y := YX8_greatestLoad) dX8_greatestLoad_22 ?_
    refine r_istore (Y := YX8_greatestLoad) dX8_greatestLoad_23 ?_
    refine r_aload_n (Y := YX8_greatestLoad) dX8_greatestLoad_25 rfl ?_
    refine r_astore (Y := YX8_greatestLoad) dX8_greatestLoad_26 ?_
    refine r_aload (Y := YX8_greatestLoad) dX8_greatestLoad_28 rfl ?_
    refine r_alen (Y := YX8_greatestLoad) dX8_greatestLoad_30 rfl ?_
    refine r_istore (Y := YX8_greatestLoad) dX8_greatestLoad_31 ?_
    refine r_iconst (Y := YX8_greatestLoad) dX8_greatestLoad_33 ?_
    refine r_istore (Y := YX8_greatestLoad) dX8_greatestLoad_34 ?_
    suffices hin : ∀ (k2 j : Nat) (h : Int), j + k2 = 4 → h = cge (σ a) (σ a i) j → R2 YX8_greatestLoad 1 σ 36 [some (rf a), some (iv g), some (rf a), some (iv 4), some (iv i), some (iv (σ a i)), some (iv h), some (rf a), some (iv 4), some (iv j), none] [] (PI fun σ' z => σ' = σ ∧ z = gl (σ a)) from
      R2.weak (by repeat first | exact trivial | refine And.intro rfl ?_) (hin 4 0 0 rfl rfl)
    intro k2
    induction k2 with
    | zero =>
      intro j h e3 e4
      have hj : j = 4 := by omega
      subst hj
      have hcb := cge_bd (σ a) (σ a i) 4
      rw [← e4] at hcb
      have hmb := mul_bd hcb.1 hcb.2 hpi.1 hpi.2
      refine r_iload (Y := YX8_greatestLoad) dX8_greatestLoad_36 rfl ?_
      refine r_iload (Y := YX8_greatestLoad) dX8_greatestLoad_38 rfl ?_
      refine r_icmp_ge (Y := YX8_greatestLoad) (tgt := 66) dX8_greatestLoad_40 (by decide) (fun c40 => ?_) (fun c40 => absurd c40 (by omega)) 
      refine r_iload_n (Y := YX8_greatestLoad) dX8_greatestLoad_66 rfl ?_
      refine r_iload (Y := YX8_greatestLoad) dX8_greatestLoad_67 rfl ?_
      refine r_iload (Y := YX8_greatestLoad) dX8_greatestLoad_69 rfl ?_
      refine r_imul (Y := YX8_greatestLoad) dX8_greatestLoad_71 ?_
      refine r_iS2I (Y := YX8_greatestLoad) ms_X8_229 dX8_greatestLoad_72 (c_J9_max_7cf53 _ _ _ (by omega) (by omega) (by omega) (by omega)) (fun σ72 z72 h72 => ?_)
      obtain ⟨rfl, rfl⟩ := h72
      refine r_istore_n (Y := YX8_greatestLoad) dX8_greatestLoad_75 ?_
      refine r_iinc (Y := YX8_greatestLoad) dX8_greatestLoad_76 rfl ?_
      refine r_goto (Y := YX8_greatestLoad) (tgt := 10) dX8_greatestLoad_79 (by decide) ?_
      exact R2.weak (by repeat first | exact trivial | refine And.intro rfl ?_) (ih (i + 1) _ (by omega) (by rw [e2, e4]; rfl))
    | succ k2 ih2 =>
      intro j h e3 e4
      have hcb := cge_bd (σ a) (σ a i) j
      have hpj := hp j (by omega) (by omega)
      refine r_iload (Y := YX8_greatestLoad) dX8_greatestLoad_36 rfl ?_
      refine r_iload (Y := YX8_greatestLoad) dX8_greatestLoad_38 rfl ?_
      refine r_icmp_ge (Y := YX8_greatestLoad) (tgt := 66) dX8_greatestLoad_40 (by decide) (fun c40 => absurd c40 (by omega)) (fun c40 => ?_) 
      refine r_aload (Y := YX8_greatestLoad) dX8_greatestLoad_43 rfl ?_
      refine r_iload (Y := YX8_greatestLoad) dX8_greatestLoad_45 rfl ?_
      refine r_iaload (Y := YX8_greatestLoad) dX8_greatestLoad_47 ?_
      refine r_istore (Y := YX8_greatestLoad) dX8_greatestLoad_48 ?_
      refine r_iload (Y := YX8_greatestLoad) dX8_greatestLoad_50 rfl ?_
      refine r_iload (Y := YX8_greatestLoad) dX8_greatestLoad_52 rfl ?_
      refine r_icmp_lt (Y := YX8_greatestLoad) (tgt := 60) dX8_greatestLoad_54 (by decide) (fun c54 => ?_) (fun c54 => ?_) 
      · refine r_iinc (Y := YX8_greatestLoad) dX8_greatestLoad_60 rfl ?_
        refine r_goto (Y := YX8_greatestLoad) (tgt := 36) dX8_greatestLoad_63 (by decide) ?_
        exact R2.weak (by repeat first | exact trivial | refine And.intro rfl ?_) (ih2 (j + 1) _ (by omega) (by rw [e4]; show _ = cge (σ a) (σ a i) j + (if σ a i ≤ σ a j then 1 else 0); first | rw [if_pos (by omega)] | (rw [if_neg (by omega)]; omega)))
      · refine r_iinc (Y := YX8_greatestLoad) dX8_greatestLoad_57 rfl ?_
        refine r_iinc (Y := YX8_greatestLoad) dX8_greatestLoad_60 rfl ?_
        refine r_goto (Y := YX8_greatestLoad) (tgt := 36) dX8_greatestLoad_63 (by decide) ?_
        exact R2.weak (by repeat first | exact trivial | refine And.intro rfl ?_) (ih2 (j + 1) _ (by omega) (by rw [e4]; show _ = cge (σ a) (σ a i) j + (if σ a i ≤ σ a j then 1 else 0); first | rw [if_pos (by omega)] | (rw [if_neg (by omega)]; omega)))
