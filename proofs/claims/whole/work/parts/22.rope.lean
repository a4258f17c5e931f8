set_option maxRecDepth 20000 in
theorem c_X5_hasRoom {σ : ab_S} {p : Int} {L : List Lk} (hp : kd_ p 5 4) (hR : RR σ p L) (hL : L.length ≤ 8) : C2 YX5_hasRoom 0 σ [rf p] (PI fun σ' z => σ' = σ ∧ z = if L.length < 8 then 1 else 0) := by
  obtain ⟨k1, k2, k3⟩ := kd_rope hp
  refine C2.of (by decide +kernel) (Nat.le_of_ble_eq_true rfl) ?_
  refine r_aload_n (Y := YX5_hasRoom) dX5_hasRoom_0 rfl ?_
  refine r_getV (Y := YX5_hasRoom) (v := (L.length : Int)) (jz := 3) fl_X5_21 dX5_hasRoom_1 (hR.1) ?_
  refine r_bipush (Y := YX5_hasRoom) dX5_hasRoom_4 ?_
  refine r_icmp_ge (Y := YX5_hasRoom) (tgt := 13) dX5_hasRoom_6 (by decide) (fun c6 => ?_) (fun c6 => ?_) 
  · refine r_iconst (Y := YX5_hasRoom) dX5_hasRoom_13 ?_
    refine r_zreturn (Y := YX5_hasRoom) dX5_hasRoom_14 (by decide) ?_
    exact ⟨rfl, by first | rw [if_pos (by omega)] | rw [if_neg (by omega)]⟩
  · refine r_iconst (Y := YX5_hasRoom) dX5_hasRoom_9 ?_
    refine r_goto (Y := YX5_hasRoom) (tgt := 14) dX5_hasRoom_10 (by decide) ?_
    refine r_zreturn (Y := YX5_hasRoom) dX5_hasRoom_14 (by decide) ?_
    exact ⟨rfl, by first | rw [if_pos (by omega)] | rw [if_neg (by omega)]⟩
set_option maxRecDepth 20000 in
theorem c_X5_powerLess {σ : ab_S} {p : Int} {L : List Lk} (hp : kd_ p 5 4) (hR : RR σ p L) {s len : Int} (hs : kd_ s 10 6) (hW : WL L) (h0 : 0 ≤ len) (h1 : len ≤ 1000) : C2 YX5_powerLess 1 σ [rf p, iv len, rf s] (PI fun σ' z => σ' = σ ∧ z = powL (σ s) (loseL len L)) := by
  obtain ⟨k1, k2, k3⟩ := kd_rope hp
  refine C2.of (by decide +kernel) (Nat.le_of_ble_eq_true rfl) ?_
  refine r_iload_n (Y := YX5_powerLess) dX5_powerLess_0 rfl ?_
  refine r_istore_n (Y := YX5_powerLess) dX5_powerLess_1 ?_
  refine r_iconst (Y := YX5_powerLess) dX5_powerLess_2 ?_
  refine r_istore (Y := YX5_powerLess) dX5_powerLess_3 ?_
  refine r_iconst (Y := YX5_powerLess) dX5_powerLess_5 ?_
  refine r_istore (Y := YX5_powerLess) dX5_powerLess_6 ?_
  suffices hloop : ∀ (k i : Nat) (x w : Int), i + k = L.length → 0 ≤ x → x ≤ 1000 → w + powL (σ s) (loseL x (L.drop i)) = powL (σ s) (loseL len L) → R2 YX5_powerLess 1 σ 8 [some (rf p), some (iv len), some (rf s), some (iv x), some (iv w), some (iv i), none] [] (PI fun σ' z => σ' = σ ∧ z = powL (σ s) (loseL len L)) from
    R2.weak (by repeat first | exact trivial | refine And.intro rfl ?_) (hloop L.length 0 len 0 (by omega) h0 h1 (by rw [List.drop_zero, Int.zero_add]))
  have hW1 := hW.1
  intro k
  induction k with
  | zero =>
    intro i x w e1 e2 e3 e4
    rw [drop_end (by omega)] at e4
    refine r_iload (Y := YX5_powerLess) dX5_powerLess_8 rfl ?_
    refine r_aload_n (Y := YX5_powerLess) dX5_powerLess_10 rfl ?_
    refine r_getV (Y := YX5_powerLess) (v := (L.length : Int)) (jz := 3) fl_X5_21 dX5_powerLess_11 (hR.1) ?_
    refine r_icmp_ge (Y := YX5_powerLess) (tgt := 66) dX5_powerLess_14 (by decide) (fun c14 => ?_) (fun c14 => absurd c14 (by omega)) 
    refine r_iload (Y := YX5_powerLess) dX5_powerLess_66 rfl ?_
    refine r_ireturn (Y := YX5_powerLess) dX5_powerLess_68 ?_
    exact ⟨rfl, by rw [← e4]; exact (Int.add_zero w).symm⟩
  | succ k ih =>
    intro i x w e1 e2 e3 e4
    obtain ⟨l, hl, hm⟩ := get_some (L := L) (i := i) (by omega)
    obtain ⟨f1, f2, f3⟩ := hR.2 i l hl
    have ho := hW.2 l hm
    have hst := powL_step (st := σ s) (x := x) e2 ho (drop_ok (L := L) (i := i + 1) hW.2)
    rw [drop_cons hl, ← hst] at e4
    unfold okL at ho
    refine r_iload (Y := YX5_powerLess) dX5_powerLess_8 rfl ?_
    refine r_aload_n (Y := YX5_powerLess) dX5_powerLess_10 rfl ?_
    refine r_getV (Y := YX5_powerLess) (v := (L.length : Int)) (jz := 3) fl_X5_21 dX5_powerLess_11 (hR.1) ?_
    refine r_icmp_ge (Y := YX5_powerLess) (tgt := 66) dX5_powerLess_14 (by decide) (fun c14 => absurd c14 (by omega)) (fun c14 => ?_) 
    refine r_iload_n (Y := YX5_powerLess) dX5_powerLess_17 rfl ?_
    refine r_aload_n (Y := YX5_powerLess) dX5_powerLess_18 rfl ?_
    refine r_getR (Y := YX5_powerLess) (δz := 2) fl_X5_15 dX5_powerLess_19 rfl rfl ?_
    refine r_iload (Y := YX5_powerLess) dX5_powerLess_22 rfl ?_
    refine r_iaV (Y := YX5_powerLess) (v := l.2.1) dX5_powerLess_24 (f2) ?_
    refine r_iS2I (Y := YX5_powerLess) ms_X5_39 dX5_powerLess_25 (c_J9_min_7cf53 _ _ _ (by omega) (by omega) (by omega) (by omega)) (fun σ25 z25 h25 => ?_)
    obtain ⟨rfl, rfl⟩ := h25
    refine r_istore (Y := YX5_powerLess) dX5_powerLess_28 ?_
    refine r_iload_n (Y := YX5_powerLess) dX5_powerLess_30 rfl ?_
    refine r_iload (Y := YX5_powerLess) dX5_powerLess_31 rfl ?_
    refine r_isub (Y := YX5_powerLess) dX5_powerLess_33 ?_
    refine r_istore_n (Y := YX5_powerLess) dX5_powerLess_34 ?_
    refine r_iload (Y := YX5_powerLess) dX5_powerLess_35 rfl ?_
    refine r_aload_n (Y := YX5_powerLess) dX5_powerLess_37 rfl ?_
    refine r_getR (Y := YX5_powerLess) (δz := 2) fl_X5_15 dX5_powerLess_38 rfl rfl ?_
    refine r_iload (Y := YX5_powerLess) dX5_powerLess_41 rfl ?_
    refine r_iaV (Y := YX5_powerLess) (v := l.2.1) dX5_powerLess_43 (f2) ?_
    refine r_iload (Y := YX5_powerLess) dX5_powerLess_44 rfl ?_
    refine r_isub (Y := YX5_powerLess) dX5_powerLess_46 ?_
    refine r_aload_n (Y := YX5_powerLess) dX5_powerLess_47 rfl ?_
    refine r_aload_n (Y := YX5_powerLess) dX5_powerLess_48 rfl ?_
    refine r_getR (Y := YX5_powerLess) (δz := 1) fl_X5_9 dX5_powerLess_49 rfl rfl ?_
    refine r_iload (Y := YX5_powerLess) dX5_powerLess_52 rfl ?_
    refine r_iaV (Y := YX5_powerLess) (v := l.1) dX5_powerLess_54 (f1) ?_
    refine r_iaload (Y := YX5_powerLess) dX5_powerLess_55 ?_
    refine r_imul (Y := YX5_powerLess) dX5_powerLess_56 ?_
    refine r_iadd (Y := YX5_powerLess) dX5_powerLess_57 ?_
    refine r_istore (Y := YX5_powerLess) dX5_powerLess_58 ?_
    refine r_iinc (Y := YX5_powerLess) dX5_powerLess_60 rfl ?_
    refine r_goto (Y := YX5_powerLess) (tgt := 8) dX5_powerLess_63 (by decide) ?_
    exact R2.weak (by repeat first | exact trivial | refine And.intro rfl ?_) (ih (i + 1) _ _ (by omega) (by omega) (by omega) (by rw [← e4]; omega))
set_option maxRecDepth 20000 in
theorem c_X5_length {σ : ab_S} {p : Int} {L : List Lk} (hp : kd_ p 5 4) (hR : RR σ p L) (hW : WL L) : C2 YX5_length 0 σ [rf p] (PI fun σ' z => σ' = σ ∧ z = lenL L) := by
  obtain ⟨k1, k2, k3⟩ := kd_rope hp
  refine C2.of (by decide +kernel) (Nat.le_of_ble_eq_true rfl) ?_
  refine r_iconst (Y := YX5_length) dX5_length_0 ?_
  refine r_istore_n (Y := YX5_length) dX5_length_1 ?_
  refine r_iconst (Y := YX5_length) dX5_length_2 ?_
  refine r_istore_n (Y := YX5_length) dX5_length_3 ?_
  suffices hloop : ∀ (k i : Nat) (w : Int), i + k = L.length → w + lenL (L.drop i) = lenL L → R2 YX5_length 0 σ 4 [some (rf p), some (iv w), some (iv i)] [] (PI fun σ' z => σ' = σ ∧ z = lenL L) from
    R2.weak (by repeat first | exact trivial | refine And.intro rfl ?_) (hloop L.length 0 0 (by omega) (by rw [List.drop_zero, Int.zero_add]))
  have hW1 := hW.1
  intro k
  induction k with
  | zero =>
    intro i w e1 e4
    rw [drop_end (by omega)] at e4
    refine r_iload_n (Y := YX5_length) dX5_length_4 rfl ?_
    refine r_aload_n (Y := YX5_length) dX5_length_5 rfl ?_
    refine r_getV (Y := YX5_length) (v := (L.length : Int)) (jz := 3) fl_X5_21 dX5_length_6 (hR.1) ?_
    refine r_icmp_ge (Y := YX5_length) (tgt := 27) dX5_length_9 (by decide) (fun c9 => ?_) (fun c9 => absurd c9 (by omega)) 
    refine r_iload_n (Y := YX5_length) dX5_length_27 rfl ?_
    refine r_ireturn (Y := YX5_length) dX5_length_28 ?_
    exact ⟨rfl, by rw [← e4]; exact (Int.add_zero w).symm⟩
  | succ k ih =>
    intro i w e1 e4
    obtain ⟨l, hl, hm⟩ := get_some (L := L) (i := i) (by omega)
    obtain ⟨f1, f2, f3⟩ := hR.2 i l hl
    have ho := hW.2 l hm
    rw [drop_cons hl] at e4
    unfold okL at ho
    have e5 : w + (l.2.1 + lenL (L.drop (i + 1))) = lenL L := e4
    refine r_iload_n (Y := YX5_length) dX5_length_4 rfl ?_
    refine r_aload_n (Y := YX5_length) dX5_length_5 rfl ?_
    refine r_getV (Y := YX5_length) (v := (L.length : Int)) (jz := 3) fl_X5_21 dX5_length_6 (hR.1) ?_
    refine r_icmp_ge (Y := YX5_length) (tgt := 27) dX5_length_9 (by decide) (fun c9 => absurd c9 (by omega)) (fun c9 => ?_) 
    refine r_iload_n (Y := YX5_length) dX5_length_12 rfl ?_
    refine r_aload_n (Y := YX5_length) dX5_length_13 rfl ?_
    refine r_getR (Y := YX5_length) (δz := 2) fl_X5_15 dX5_length_14 rfl rfl ?_
    refine r_iload_n (Y := YX5_length) dX5_length_17 rfl ?_
    refine r_iaV (Y := YX5_length) (v := l.2.1) dX5_length_18 (f2) ?_
    refine r_iadd (Y := YX5_length) dX5_length_19 ?_
    refine r_istore_n (Y := YX5_length) dX5_length_20 ?_
    refine r_iinc (Y := YX5_length) dX5_length_21 rfl ?_
    refine r_goto (Y := YX5_length) (tgt := 4) dX5_length_24 (by decide) ?_
    exact R2.weak (by repeat first | exact trivial | refine And.intro rfl ?_) (ih (i + 1) _ (by omega) (by omega))
set_option maxRecDepth 20000 in
theorem c_X5_lengthOf {σ : ab_S} {p : Int} {L : List Lk} (hp : kd_ p 5 4) (hR : RR σ p L) {m : Int} (hm1 : -2147483648 ≤ m) (hm2 : m ≤ 2147483647) (hW : WL L) : C2 YX5_lengthOf 0 σ [rf p, iv m] (PI fun σ' z => σ' = σ ∧ z = lenM m L) := by
  obtain ⟨k1, k2, k3⟩ := kd_rope hp
  refine C2.of (by decide +kernel) (Nat.le_of_ble_eq_true rfl) ?_
  refine r_iconst (Y := YX5_lengthOf) dX5_lengthOf_0 ?_
  refine r_istore_n (Y := YX5_lengthOf) dX5_lengthOf_1 ?_
  refine r_iconst (Y := YX5_lengthOf) dX5_lengthOf_2 ?_
  refine r_istore_n (Y := YX5_lengthOf) dX5_lengthOf_3 ?_
  suffices hloop : ∀ (k i : Nat) (w : Int), i + k = L.length → w + lenM m (L.drop i) = lenM m L → R2 YX5_lengthOf 0 σ 4 [some (rf p), some (iv m), some (iv w), some (iv i)] [] (PI fun σ' z => σ' = σ ∧ z = lenM m L) from
    R2.weak (by repeat first | exact trivial | refine And.intro rfl ?_) (hloop L.length 0 0 (by omega) (by rw [List.drop_zero, Int.zero_add]))
  have hW1 := hW.1
  intro k
  induction k with
  | zero =>
    intro i w e1 e4
    rw [drop_end (by omega)] at e4
    refine r_iload_n (Y := YX5_lengthOf) dX5_lengthOf_4 rfl ?_
    refine r_aload_n (Y := YX5_lengthOf) dX5_lengthOf_5 rfl ?_
    refine r_getV (Y := YX5_lengthOf) (v := (L.length : Int)) (jz := 3) fl_X5_21 dX5_lengthOf_6 (hR.1) ?_
    refine r_icmp_ge (Y := YX5_lengthOf) (tgt := 37) dX5_lengthOf_9 (by decide) (fun c9 => ?_) (fun c9 => absurd c9 (by omega)) 
    refine r_iload_n (Y := YX5_lengthOf) dX5_lengthOf_37 rfl ?_
    refine r_ireturn (Y := YX5_lengthOf) dX5_lengthOf_38 ?_
    exact ⟨rfl, by rw [← e4]; exact (Int.add_zero w).symm⟩
  | succ k ih =>
    intro i w e1 e4
    obtain ⟨l, hl, hm⟩ := get_some (L := L) (i := i) (by omega)
    obtain ⟨f1, f2, f3⟩ := hR.2 i l hl
    have ho := hW.2 l hm
    rw [drop_cons hl] at e4
    unfold okL at ho
    have e5 : w + ((if l.1 = m then l.2.1 else 0) + lenM m (L.drop (i + 1))) = lenM m L := e4
    refine r_iload_n (Y := YX5_lengthOf) dX5_lengthOf_4 rfl ?_
    refine r_aload_n (Y := YX5_lengthOf) dX5_lengthOf_5 rfl ?_
    refine r_getV (Y := YX5_lengthOf) (v := (L.length : Int)) (jz := 3) fl_X5_21 dX5_lengthOf_6 (hR.1) ?_
    refine r_icmp_ge (Y := YX5_lengthOf) (tgt := 37) dX5_lengthOf_9 (by decide) (fun c9 => absurd c9 (by omega)) (fun c9 => ?_) 
    refine r_aload_n (Y := YX5_lengthOf) dX5_lengthOf_12 rfl ?_
    refine r_getR (Y := YX5_lengthOf) (δz := 1) fl_X5_9 dX5_lengthOf_13 rfl rfl ?_
    refine r_iload_n (Y := YX5_lengthOf) dX5_lengthOf_16 rfl ?_
    refine r_iaV (Y := YX5_lengthOf) (v := l.1) dX5_lengthOf_17 (f1) ?_
    refine r_iload_n (Y := YX5_lengthOf) dX5_lengthOf_18 rfl ?_
    refine r_icmp_ne (Y := YX5_lengthOf) (tgt := 31) dX5_lengthOf_19 (by decide) (fun c19 => ?_) (fun c19 => ?_) 
    · refine r_iinc (Y := YX5_lengthOf) dX5_lengthOf_31 rfl ?_
      refine r_goto (Y := YX5_lengthOf) (tgt := 4) dX5_lengthOf_34 (by decide) ?_
      exact R2.weak (by repeat first | exact trivial | refine And.intro rfl ?_) (ih (i + 1) _ (by omega) (by rw [← e5]; (first | rw [if_pos (by omega)] | rw [if_neg (by omega)]); omega))
    · refine r_iload_n (Y := YX5_lengthOf) dX5_lengthOf_22 rfl ?_
      refine r_aload_n (Y := YX5_lengthOf) dX5_lengthOf_23 rfl ?_
      refine r_getR (Y := YX5_lengthOf) (δz := 2) fl_X5_15 dX5_lengthOf_24 rfl rfl ?_
      refine r_iload_n (Y := YX5_lengthOf) dX5_lengthOf_27 rfl ?_
      refine r_iaV (Y := YX5_lengthOf) (v := l.2.1) dX5_lengthOf_28 (f2) ?_
      refine r_iadd (Y := YX5_lengthOf) dX5_lengthOf_29 ?_
      refine r_istore_n (Y := YX5_lengthOf) dX5_lengthOf_30 ?_
      refine r_iinc (Y := YX5_lengthOf) dX5_lengthOf_31 rfl ?_
      refine r_goto (Y := YX5_lengthOf) (tgt := 4) dX5_lengthOf_34 (by decide) ?_
      exact R2.weak (by repeat first | exact trivial | refine And.intro rfl ?_) (ih (i + 1) _ (by omega) (by rw [← e5]; (first | rw [if_pos (by omega)] | rw [if_neg (by omega)]); omega))
set_option maxRecDepth 20000 in
theorem c_X5_dropOldest {σ : ab_S} {p : Int} {L : List Lk} (hp : kd_ p 5 4) (hR : RR σ p L) {n : Nat} (hL : L.length ≤ 8) (hn : n ≤ L.length) : C2 YX5_dropOldest 1 σ [rf p, iv n] (PV fun σ' => RR σ' p (L.drop n) ∧ ∀ k i : Int, k < p ∨ p + 3 < k → σ' k i = σ k i) := by
  obtain ⟨k1, k2, k3⟩ := kd_rope hp
  refine C2.of (by decide +kernel) (Nat.le_of_ble_eq_true rfl) ?_
  refine r_iload_n (Y := YX5_dropOldest) dX5_dropOldest_0 rfl ?_
  refine r_if_le (Y := YX5_dropOldest) (tgt := 65) dX5_dropOldest_1 (by decide) (fun c1 => ?_) (fun c1 => ?_) 
  · refine r_return (Y := YX5_dropOldest) dX5_dropOldest_65 ?_
    by_cases hn0 : n = 0
    · subst hn0
      first | exact ⟨by rw [List.drop_zero]; exact hR, fun _ _ _ => rfl⟩ | (exfalso; omega)
    · first
      | (exfalso; omega)
      | (refine ⟨⟨by rw [List.length_drop, show ((L.length - n : Nat) : Int) = (L.length : Int) - n by omega]; exact (by (try delta up); (try delta cpy); (try dsimp only); repeat (first | rw [if_pos (by omega)] | rw [if_neg (by omega)]); try (first | rfl | assumption | omega)), fun i l hl => ?_⟩, fun k i hk => by (try delta up); (try delta cpy); (try dsimp only); repeat (first | rw [if_pos (by omega)] | rw [if_neg (by omega)]); try (first | rfl | assumption | omega)⟩
         rw [List.getElem?_drop] at hl
         have hi : n + i < L.length := (List.getElem?_eq_some_iff.mp hl).1
         obtain ⟨f1, f2, f3⟩ := hR.2 (n + i) l hl
         rw [← f1, ← f2, ← f3]
         have e : ((n + i : Nat) : Int) = (n : Int) + ((i : Int) - 0) := by omega
         rw [e]
         exact ⟨by (try delta up); (try delta cpy); (try dsimp only); repeat (first | rw [if_pos (by omega)] | rw [if_neg (by omega)]); try (first | rfl | assumption | omega), by (try delta up); (try delta cpy); (try dsimp only); repeat (first | rw [if_pos (by omega)] | rw [if_neg (by omega)]); try (first | rfl | assumption | omega), by (try delta up); (try delta cpy); (try dsimp only); repeat (first | rw [if_pos (by omega)] | rw [if_neg (by omega)]); try (first | rfl | assumption | omega)⟩)
  · refine r_aload_n (Y := YX5_dropOldest) dX5_dropOldest_4 rfl ?_
    refine r_dup (Y := YX5_dropOldest) dX5_dropOldest_5 ?_
    refine r_getV (Y := YX5_dropOldest) (v := (L.length : Int)) (jz := 3) fl_X5_21 dX5_dropOldest_6 (hR.1) ?_
    refine r_iload_n (Y := YX5_dropOldest) dX5_dropOldest_9 rfl ?_
    refine r_isub (Y := YX5_dropOldest) dX5_dropOldest_10 ?_
    refine r_putI (Y := YX5_dropOldest) (jz := 3) fp_X5_21 dX5_dropOldest_11 ?_
    refine r_aload_n (Y := YX5_dropOldest) dX5_dropOldest_14 rfl ?_
    refine r_getR (Y := YX5_dropOldest) (δz := 1) fl_X5_9 dX5_dropOldest_15 rfl rfl ?_
    refine r_iload_n (Y := YX5_dropOldest) dX5_dropOldest_18 rfl ?_
    refine r_aload_n (Y := YX5_dropOldest) dX5_dropOldest_19 rfl ?_
    refine r_getR (Y := YX5_dropOldest) (δz := 1) fl_X5_9 dX5_dropOldest_20 rfl rfl ?_
    refine r_iconst (Y := YX5_dropOldest) dX5_dropOldest_23 ?_
    refine r_aload_n (Y := YX5_dropOldest) dX5_dropOldest_24 rfl ?_
    refine r_getV (Y := YX5_dropOldest) (v := (L.length : Int) - n) (jz := 3) fl_X5_21 dX5_dropOldest_25 (by (try delta up); (try delta cpy); (try dsimp only); repeat (first | rw [if_pos (by omega)] | rw [if_neg (by omega)]); try (first | rfl | assumption | omega)) ?_
    refine r_copy (Y := YX5_dropOldest) wa_X5_25 dX5_dropOldest_28 (by assumption) (by assumption) ?_
    refine r_aload_n (Y := YX5_dropOldest) dX5_dropOldest_31 rfl ?_
    refine r_getR (Y := YX5_dropOldest) (δz := 2) fl_X5_15 dX5_dropOldest_32 rfl rfl ?_
    refine r_iload_n (Y := YX5_dropOldest) dX5_dropOldest_35 rfl ?_
    refine r_aload_n (Y := YX5_dropOldest) dX5_dropOldest_36 rfl ?_
    refine r_getR (Y := YX5_dropOldest) (δz := 2) fl_X5_15 dX5_dropOldest_37 rfl rfl ?_
    refine r_iconst (Y := YX5_dropOldest) dX5_dropOldest_40 ?_
    refine r_aload_n (Y := YX5_dropOldest) dX5_dropOldest_41 rfl ?_
    refine r_getV (Y := YX5_dropOldest) (v := (L.length : Int) - n) (jz := 3) fl_X5_21 dX5_dropOldest_42 (by (try delta up); (try delta cpy); (try dsimp only); repeat (first | rw [if_pos (by omega)] | rw [if_neg (by omega)]); try (first | rfl | assumption | omega)) ?_
    refine r_copy (Y := YX5_dropOldest) wa_X5_25 dX5_dropOldest_45 (by assumption) (by assumption) ?_
    refine r_aload_n (Y := YX5_dropOldest) dX5_dropOldest_48 rfl ?_
    refine r_getR (Y := YX5_dropOldest) (δz := 3) fl_X5_18 dX5_dropOldest_49 rfl rfl ?_
    refine r_iload_n (Y := YX5_dropOldest) dX5_dropOldest_52 rfl ?_
    refine r_aload_n (Y := YX5_dropOldest) dX5_dropOldest_53 rfl ?_
    refine r_getR (Y := YX5_dropOldest) (δz := 3) fl_X5_18 dX5_dropOldest_54 rfl rfl ?_
    refine r_iconst (Y := YX5_dropOldest) dX5_dropOldest_57 ?_
    refine r_aload_n (Y := YX5_dropOldest) dX5_dropOldest_58 rfl ?_
    refine r_getV (Y := YX5_dropOldest) (v := (L.length : Int) - n) (jz := 3) fl_X5_21 dX5_dropOldest_59 (by (try delta up); (try delta cpy); (try dsimp only); repeat (first | rw [if_pos (by omega)] | rw [if_neg (by omega)]); try (first | rfl | assumption | omega)) ?_
    refine r_copy (Y := YX5_dropOldest) wa_X5_25 dX5_dropOldest_62 (by assumption) (by assumption) ?_
    refine r_return (Y := YX5_dropOldest) dX5_dropOldest_65 ?_
    by_cases hn0 : n = 0
    · subst hn0
      first | exact ⟨by rw [List.drop_zero]; exact hR, fun _ _ _ => rfl⟩ | (exfalso; omega)
    · first
      | (exfalso; omega)
      | (refine ⟨⟨by rw [List.length_drop, show ((L.length - n : Nat) : Int) = (L.length : Int) - n by omega]; exact (by (try delta up); (try delta cpy); (try dsimp only); repeat (first | rw [if_pos (by omega)] | rw [if_neg (by omega)]); try (first | rfl | assumption | omega)), fun i l hl => ?_⟩, fun k i hk => by (try delta up); (try delta cpy); (try dsimp only); repeat (first | rw [if_pos (by omega)] | rw [if_neg (by omega)]); try (first | rfl | assumption | omega)⟩
         rw [List.getElem?_drop] at hl
         have hi : n + i < L.length := (List.getElem?_eq_some_iff.mp hl).1
         obtain ⟨f1, f2, f3⟩ := hR.2 (n + i) l hl
         rw [← f1, ← f2, ← f3]
         have e : ((n + i : Nat) : Int) = (n : Int) + ((i : Int) - 0) := by omega
         rw [e]
         exact ⟨by (try delta up); (try delta cpy); (try dsimp only); repeat (first | rw [if_pos (by omega)] | rw [if_neg (by omega)]); try (first | rfl | assumption | omega), by (try delta up); (try delta cpy); (try dsimp only); repeat (first | rw [if_pos (by omega)] | rw [if_neg (by omega)]); try (first | rfl | assumption | omega), by (try delta up); (try delta cpy); (try dsimp only); repeat (first | rw [if_pos (by omega)] | rw [if_neg (by omega)]); try (first | rfl | assumption | omega)⟩)
set_option maxRecDepth 20000 in
theorem c_X5_add {σ : ab_S} {p : Int} {L : List Lk} (hp : kd_ p 5 4) (hR : RR σ p L) {m x w : Int} (hL : L.length < 8) : C2 YX5_add 1 σ [rf p, iv m, iv x, iv w] (PV fun σ' => RR σ' p (L ++ [(m, x, w)]) ∧ ∀ k i : Int, k < p ∨ p + 3 < k → σ' k i = σ k i) := by
  obtain ⟨k1, k2, k3⟩ := kd_rope hp
  refine C2.of (by decide +kernel) (Nat.le_of_ble_eq_true rfl) ?_
  refine r_aload_n (Y := YX5_add) dX5_add_0 rfl ?_
  refine r_iV0I (Y := YX5_add) mv_X5_31 dX5_add_1 (c_X5_hasRoom hp hR (by omega)) (by assumption) (fun σ1 z1 h1 => ?_)
  obtain ⟨rfl, rfl⟩ := h1
  rw [if_pos hL]
  refine r_if_eq (Y := YX5_add) (tgt := 47) dX5_add_4 (by decide) (fun c4 => absurd c4 (by omega)) (fun c4 => ?_) 
  refine r_aload_n (Y := YX5_add) dX5_add_7 rfl ?_
  refine r_getR (Y := YX5_add) (δz := 1) fl_X5_9 dX5_add_8 rfl rfl ?_
  refine r_aload_n (Y := YX5_add) dX5_add_11 rfl ?_
  refine r_getV (Y := YX5_add) (v := (L.length : Int)) (jz := 3) fl_X5_21 dX5_add_12 (by first | exact hR.1 | (rw [← hR.1]; exact by (try delta up); (try delta cpy); (try dsimp only); repeat (first | rw [if_pos (by omega)] | rw [if_neg (by omega)]); try (first | rfl | assumption | omega))) ?_
  refine r_iload_n (Y := YX5_add) dX5_add_15 rfl ?_
  refine r_iastore (Y := YX5_add) dX5_add_16 ?_
  refine r_aload_n (Y := YX5_add) dX5_add_17 rfl ?_
  refine r_getR (Y := YX5_add) (δz := 2) fl_X5_15 dX5_add_18 rfl rfl ?_
  refine r_aload_n (Y := YX5_add) dX5_add_21 rfl ?_
  refine r_getV (Y := YX5_add) (v := (L.length : Int)) (jz := 3) fl_X5_21 dX5_add_22 (by first | exact hR.1 | (rw [← hR.1]; exact by (try delta up); (try delta cpy); (try dsimp only); repeat (first | rw [if_pos (by omega)] | rw [if_neg (by omega)]); try (first | rfl | assumption | omega))) ?_
  refine r_iload_n (Y := YX5_add) dX5_add_25 rfl ?_
  refine r_iastore (Y := YX5_add) dX5_add_26 ?_
  refine r_aload_n (Y := YX5_add) dX5_add_27 rfl ?_
  refine r_getR (Y := YX5_add) (δz := 3) fl_X5_18 dX5_add_28 rfl rfl ?_
  refine r_aload_n (Y := YX5_add) dX5_add_31 rfl ?_
  refine r_getV (Y := YX5_add) (v := (L.length : Int)) (jz := 3) fl_X5_21 dX5_add_32 (by first | exact hR.1 | (rw [← hR.1]; exact by (try delta up); (try delta cpy); (try dsimp only); repeat (first | rw [if_pos (by omega)] | rw [if_neg (by omega)]); try (first | rfl | assumption | omega))) ?_
  refine r_iload_n (Y := YX5_add) dX5_add_35 rfl ?_
  refine r_iastore (Y := YX5_add) dX5_add_36 ?_
  refine r_aload_n (Y := YX5_add) dX5_add_37 rfl ?_
  refine r_dup (Y := YX5_add) dX5_add_38 ?_
  refine r_getV (Y := YX5_add) (v := (L.length : Int)) (jz := 3) fl_X5_21 dX5_add_39 (by first | exact hR.1 | (rw [← hR.1]; exact by (try delta up); (try delta cpy); (try dsimp only); repeat (first | rw [if_pos (by omega)] | rw [if_neg (by omega)]); try (first | rfl | assumption | omega))) ?_
  refine r_iconst (Y := YX5_add) dX5_add_42 ?_
  refine r_iadd (Y := YX5_add) dX5_add_43 ?_
  refine r_putI (Y := YX5_add) (jz := 3) fp_X5_21 dX5_add_44 ?_
  refine r_return (Y := YX5_add) dX5_add_47 ?_
  refine ⟨⟨by rw [List.length_append]; show _ = ((L.length + 1 : Nat) : Int); exact by (try delta up); (try delta cpy); (try dsimp only); repeat (first | rw [if_pos (by omega)] | rw [if_neg (by omega)]); try (first | rfl | assumption | omega), fun i l hl => ?_⟩, fun k i hk => by (try delta up); (try delta cpy); (try dsimp only); repeat (first | rw [if_pos (by omega)] | rw [if_neg (by omega)]); try (first | rfl | assumption | omega)⟩
  by_cases hi : i < L.length
  · rw [List.getElem?_append_left hi] at hl
    obtain ⟨f1, f2, f3⟩ := hR.2 i l hl
    rw [← f1, ← f2, ← f3]
    exact ⟨by (try delta up); (try delta cpy); (try dsimp only); repeat (first | rw [if_pos (by omega)] | rw [if_neg (by omega)]); try (first | rfl | assumption | omega), by (try delta up); (try delta cpy); (try dsimp only); repeat (first | rw [if_pos (by omega)] | rw [if_neg (by omega)]); try (first | rfl | assumption | omega), by (try delta up); (try delta cpy); (try dsimp only); repeat (first | rw [if_pos (by omega)] | rw [if_neg (by omega)]); try (first | rfl | assumption | omega)⟩
  · rw [List.getElem?_append_right (by omega)] at hl
    have hz : i - L.length < 1 := (List.getElem?_eq_some_iff.mp hl).1
    have hi2 : i = L.length := by omega
    subst hi2
    rw [Nat.sub_self] at hl
    cases hl
    exact ⟨by (try delta up); (try delta cpy); (try dsimp only); repeat (first | rw [if_pos (by omega)] | rw [if_neg (by omega)]); try (first | rfl | assumption | omega), by (try delta up); (try delta cpy); (try dsimp only); repeat (first | rw [if_pos (by omega)] | rw [if_neg (by omega)]); try (first | rfl | assumption | omega), by (try delta up); (try delta cpy); (try dsimp only); repeat (first | rw [if_pos (by omega)] | rw [if_neg (by omega)]); try (first | rfl | assumption | omega)⟩
set_option maxRecDepth 20000 in
theorem c_X5_become {σ : ab_S} {p q : Int} {L : List Lk} (hp : kd_ p 5 4) (hq : kd_ q 5 4) (hR : RR σ q L) (hL : L.length ≤ 8) (hap : q + 3 < p ∨ p + 3 < q) : C2 YX5_become 1 σ [rf p, rf q] (PV fun σ' => RR σ' p L ∧ ∀ k i : Int, k < p ∨ p + 3 < k → σ' k i = σ k i) := by
  obtain ⟨k1, k2, k3⟩ := kd_rope hp
  obtain ⟨j1, j2, j3⟩ := kd_rope hq
  have hn := hR.1
  refine C2.of (by decide +kernel) (Nat.le_of_ble_eq_true rfl) ?_
  refine r_aload_n (Y := YX5_become) dX5_become_0 rfl ?_
  refine r_aload_n (Y := YX5_become) dX5_become_1 rfl ?_
  refine r_getV (Y := YX5_become) (v := (L.length : Int)) (jz := 3) fl_X5_21 dX5_become_2 (hR.1) ?_
  refine r_putI (Y := YX5_become) (jz := 3) fp_X5_21 dX5_become_5 ?_
  refine r_aload_n (Y := YX5_become) dX5_become_8 rfl ?_
  refine r_getR (Y := YX5_become) (δz := 1) fl_X5_9 dX5_become_9 rfl rfl ?_
  refine r_iconst (Y := YX5_become) dX5_become_12 ?_
  refine r_aload_n (Y := YX5_become) dX5_become_13 rfl ?_
  refine r_getR (Y := YX5_become) (δz := 1) fl_X5_9 dX5_become_14 rfl rfl ?_
  refine r_iconst (Y := YX5_become) dX5_become_17 ?_
  refine r_aload_n (Y := YX5_become) dX5_become_18 rfl ?_
  refine r_getV (Y := YX5_become) (v := (L.length : Int)) (jz := 3) fl_X5_21 dX5_become_19 (by (try delta up); (try delta cpy); (try dsimp only); repeat (first | rw [if_pos (by omega)] | rw [if_neg (by omega)]); try (first | rfl | assumption | omega)) ?_
  refine r_copy (Y := YX5_become) wa_X5_25 dX5_become_22 (by assumption) (by assumption) ?_
  refine r_aload_n (Y := YX5_become) dX5_become_25 rfl ?_
  refine r_getR (Y := YX5_become) (δz := 2) fl_X5_15 dX5_become_26 rfl rfl ?_
  refine r_iconst (Y := YX5_become) dX5_become_29 ?_
  refine r_aload_n (Y := YX5_become) dX5_become_30 rfl ?_
  refine r_getR (Y := YX5_become) (δz := 2) fl_X5_15 dX5_become_31 rfl rfl ?_
  refine r_iconst (Y := YX5_become) dX5_become_34 ?_
  refine r_aload_n (Y := YX5_become) dX5_become_35 rfl ?_
  refine r_getV (Y := YX5_become) (v := (L.length : Int)) (jz := 3) fl_X5_21 dX5_become_36 (by (try delta up); (try delta cpy); (try dsimp only); repeat (first | rw [if_pos (by omega)] | rw [if_neg (by omega)]); try (first | rfl | assumption | omega)) ?_
  refine r_copy (Y := YX5_become) wa_X5_25 dX5_become_39 (by assumption) (by assumption) ?_
  refine r_aload_n (Y := YX5_become) dX5_become_42 rfl ?_
  refine r_getR (Y := YX5_become) (δz := 3) fl_X5_18 dX5_become_43 rfl rfl ?_
  refine r_iconst (Y := YX5_become) dX5_become_46 ?_
  refine r_aload_n (Y := YX5_become) dX5_become_47 rfl ?_
  refine r_getR (Y := YX5_become) (δz := 3) fl_X5_18 dX5_become_48 rfl rfl ?_
  refine r_iconst (Y := YX5_become) dX5_become_51 ?_
  refine r_aload_n (Y := YX5_become) dX5_become_52 rfl ?_
  refine r_getV (Y := YX5_become) (v := (L.length : Int)) (jz := 3) fl_X5_21 dX5_become_53 (by (try delta up); (try delta cpy); (try dsimp only); repeat (first | rw [if_pos (by omega)] | rw [if_neg (by omega)]); try (first | rfl | assumption | omega)) ?_
  refine r_copy (Y := YX5_become) wa_X5_25 dX5_become_56 (by assumption) (by assumption) ?_
  refine r_return (Y := YX5_become) dX5_become_59 ?_
  refine ⟨⟨by (try delta up); (try delta cpy); (try dsimp only); repeat (first | rw [if_pos (by omega)] | rw [if_neg (by omega)]); try (first | rfl | assumption | omega), fun i l hl => ?_⟩, fun k i hk => by (try delta up); (try delta cpy); (try dsimp only); repeat (first | rw [if_pos (by omega)] | rw [if_neg (by omega)]); try (first | rfl | assumption | omega)⟩
  have hi : i < L.length := (List.getElem?_eq_some_iff.mp hl).1
  obtain ⟨f1, f2, f3⟩ := hR.2 i l hl
  rw [← f1, ← f2, ← f3]
  have e : (i : Int) = 0 + ((i : Int) - 0) := by omega
  refine ⟨?_, ?_, ?_⟩ <;> (conv => rhs; rw [e])
  · exact by (try delta up); (try delta cpy); (try dsimp only); repeat (first | rw [if_pos (by omega)] | rw [if_neg (by omega)]); try (first | rfl | assumption | omega)
  · exact by (try delta up); (try delta cpy); (try dsimp only); repeat (first | rw [if_pos (by omega)] | rw [if_neg (by omega)]); try (first | rfl | assumption | omega)
  · exact by (try delta up); (try delta cpy); (try dsimp only); repeat (first | rw [if_pos (by omega)] | rw [if_neg (by omega)]); try (first | rfl | assumption | omega)
