/-! the model: ropes on trial -/
def RK (σ : ab_S) (m r : Int) (L : List Lk) : Prop := RQ σ (m + 16) (m + 17) (m + 18) (m + 19) r L
/-- what a change of one rope leaves as it is -/
def FO (σ τ : ab_S) (m r : Int) : Prop := ∀ k i : Int, ¬ ((k = m + 16 ∨ k = m + 17 ∨ k = m + 18) ∧ 8 * r ≤ i ∧ i < 8 * r + 8) → ¬ (k = m + 19 ∧ i = r) → τ k i = σ k i
theorem MT.rope {σ τ : ab_S} {m n : Int} {B : AB} {L : List Lk} (h : MT σ m B) (hW : ∀ r : Int, 0 ≤ r → r < 4 → r ≠ n → (aR B r).length ≤ 8) (hn1 : 0 ≤ n) (hn2 : n < 4) (hR : RK τ m n L) (hf : ∀ k i : Int, (k = m + 2 ∨ (m + 13 ≤ k ∧ k ≤ m + 19) ∨ (k = m ∧ (i = 8 ∨ i = 23))) → ¬ ((k = m + 16 ∨ k = m + 17 ∨ k = m + 18) ∧ 8 * n ≤ i ∧ i < 8 * n + 8) → ¬ (k = m + 19 ∧ i = n) → τ k i = σ k i) : MT τ m (setR B n L) := by
  obtain ⟨h1, h2, h3, h4, h5, h6, h7⟩ := h
  refine ⟨fun j a b => ?_, fun j a b => ?_, fun j a b => ?_, fun j a b => ?_, fun r a b => ?_, ?_, ?_⟩
  · rw [hf _ _ (by omega) (by omega) (by omega)]; exact h1 j a b
  · rw [hf _ _ (by omega) (by omega) (by omega)]; exact h2 j a b
  · rw [hf _ _ (by omega) (by omega) (by omega)]; exact h3 j a b
  · rw [hf _ _ (by omega) (by omega) (by omega)]; exact h4 j a b
  · show RQ τ _ _ _ _ r (fu (aR B) n L r)
    by_cases e : r = n
    · subst e
      rw [fu_same]
      exact hR
    · rw [fu_ne e]
      have h8 := h5 r a b
      refine ⟨?_, fun i l hl => ?_⟩
      · rw [hf _ _ (by omega) (by omega) (by omega)]; exact h8.1
      · have hi := (List.getElem?_eq_some_iff.mp hl).1
        have hl8 := hW r a b e
        rw [hf _ _ (by omega) (by omega) (by omega), hf _ _ (by omega) (by omega) (by omega), hf _ _ (by omega) (by omega) (by omega)]
        exact h8.2 i l hl
  · rw [hf _ _ (by omega) (by omega) (by omega)]; exact h6
  · rw [hf _ _ (by omega) (by omega) (by omega)]; exact h7
theorem MT.worn {σ τ : ab_S} {m : Int} {B : AB} {W : Int → Int} (h : MT σ m B) (hv : ∀ j : Int, 0 ≤ j → j < 6 → τ (m + 15) j = W j) (hf : ∀ k i : Int, (k = m + 2 ∨ (m + 13 ≤ k ∧ k ≤ m + 19) ∨ (k = m ∧ (i = 8 ∨ i = 23))) → k ≠ m + 15 → τ k i = σ k i) : MT τ m (setW B W) := by
  obtain ⟨h1, h2, h3, h4, h5, h6, h7⟩ := h
  refine ⟨fun j a b => ?_, fun j a b => ?_, fun j a b => ?_, hv, fun r a b => ?_, ?_, ?_⟩
  · rw [hf _ _ (by omega) (by omega)]; exact h1 j a b
  · rw [hf _ _ (by omega) (by omega)]; exact h2 j a b
  · rw [hf _ _ (by omega) (by omega)]; exact h3 j a b
  · exact (h5 r a b).kept (fun k i c => hf k i (by omega) (by omega))
  · rw [hf _ _ (by omega) (by omega)]; exact h6
  · rw [hf _ _ (by omega) (by omega)]; exact h7
theorem MT.hair {σ τ : ab_S} {m p v : Int} {B : AB} (h : MT σ m B) (hv : τ (m + 13) p = v) (hf : ∀ k i : Int, (k = m + 2 ∨ (m + 13 ≤ k ∧ k ≤ m + 19) ∨ (k = m ∧ (i = 8 ∨ i = 23))) → ¬ (k = m + 13 ∧ i = p) → τ k i = σ k i) : MT τ m (setH B p v) := by
  obtain ⟨h1, h2, h3, h4, h5, h6, h7⟩ := h
  refine ⟨fun j a b => ?_, fun j a b => ?_, fun j a b => ?_, fun j a b => ?_, fun r a b => ?_, ?_, ?_⟩
  · show τ (m + 13) j = fu (aH B) p v j
    by_cases e : j = p
    · subst e; rw [fu_same]; exact hv
    · rw [fu_ne e, hf _ _ (by omega) (by omega)]; exact h1 j a b
  · rw [hf _ _ (by omega) (by omega)]; exact h2 j a b
  · rw [hf _ _ (by omega) (by omega)]; exact h3 j a b
  · rw [hf _ _ (by omega) (by omega)]; exact h4 j a b
  · exact (h5 r a b).kept (fun k i c => hf k i (by omega) (by omega))
  · rw [hf _ _ (by omega) (by omega)]; exact h6
  · rw [hf _ _ (by omega) (by omega)]; exact h7
theorem MT.bask {σ τ : ab_S} {m p v : Int} {B : AB} (h : MT σ m B) (hv : τ (m + 14) p = v) (hf : ∀ k i : Int, (k = m + 2 ∨ (m + 13 ≤ k ∧ k ≤ m + 19) ∨ (k = m ∧ (i = 8 ∨ i = 23))) → ¬ (k = m + 14 ∧ i = p) → τ k i = σ k i) : MT τ m (setB B p v) := by
  obtain ⟨h1, h2, h3, h4, h5, h6, h7⟩ := h
  refine ⟨fun j a b => ?_, fun j a b => ?_, fun j a b => ?_, fun j a b => ?_, fun r a b => ?_, ?_, ?_⟩
  · rw [hf _ _ (by omega) (by omega)]; exact h1 j a b
  · rw [hf _ _ (by omega) (by omega)]; exact h2 j a b
  · show τ (m + 14) j = fu (aB B) p v j
    by_cases e : j = p
    · subst e; rw [fu_same]; exact hv
    · rw [fu_ne e, hf _ _ (by omega) (by omega)]; exact h3 j a b
  · rw [hf _ _ (by omega) (by omega)]; exact h4 j a b
  · exact (h5 r a b).kept (fun k i c => hf k i (by omega) (by omega))
  · rw [hf _ _ (by omega) (by omega)]; exact h6
  · rw [hf _ _ (by omega) (by omega)]; exact h7
theorem MT.wk {σ τ : ab_S} {m v : Int} {B : AB} (h : MT σ m B) (hv : τ m 23 = v) (hf : ∀ k i : Int, (k = m + 2 ∨ (m + 13 ≤ k ∧ k ≤ m + 19) ∨ (k = m ∧ i = 8)) → τ k i = σ k i) : MT τ m (setWk B v) := by
  obtain ⟨h1, h2, h3, h4, h5, h6, h7⟩ := h
  refine ⟨fun j a b => ?_, fun j a b => ?_, fun j a b => ?_, fun j a b => ?_, fun r a b => ?_, ?_, hv⟩
  · rw [hf _ _ (by omega)]; exact h1 j a b
  · rw [hf _ _ (by omega)]; exact h2 j a b
  · rw [hf _ _ (by omega)]; exact h3 j a b
  · rw [hf _ _ (by omega)]; exact h4 j a b
  · exact (h5 r a b).kept (fun k i c => hf k i (by omega))
  · rw [hf _ _ (by omega)]; exact h6
set_option maxRecDepth 20000 in
theorem c_X9_dropFirst {σ : ab_S} {m : Int} (hm : kd_ m 9 37) {r : Int} {l : Lk} {L : List Lk} (hr1 : 0 ≤ r) (hr2 : r < 4) (hR : RK σ m r (l :: L)) (hL : L.length < 8) : C2 YX9_dropFirst 0 σ [rf m, iv r] (PV fun σ' => RK σ' m r L ∧ FO σ σ' m r) := by
  obtain ⟨k1, k2, k3, k4, k5, k6, k7, k8, k9, k10, k11, k12, k13, k14, k15, k16, k17, k18, k19, k20, k21, k22, k23, k24, k25, k26⟩ := kd_model hm
  have hc : σ (m + 19) r = (L.length : Int) + 1 := by rw [hR.1, List.length_cons]; omega
  refine C2.of (by decide +kernel) (Nat.le_of_ble_eq_true rfl) ?_
  refine r_aload_n (Y := YX9_dropFirst) dX9_dropFirst_0 rfl ?_
  refine r_getR (Y := YX9_dropFirst) (δz := 19) fl_X9_64 dX9_dropFirst_1 rfl rfl ?_
  refine r_iload_n (Y := YX9_dropFirst) dX9_dropFirst_4 rfl ?_
  refine r_dup2 (Y := YX9_dropFirst) dX9_dropFirst_5 ?_
  refine r_iaV (Y := YX9_dropFirst) (v := (L.length : Int) + 1) dX9_dropFirst_6 (hc) ?_
  refine r_iconst (Y := YX9_dropFirst) dX9_dropFirst_7 ?_
  refine r_isub (Y := YX9_dropFirst) dX9_dropFirst_8 ?_
  refine r_iastore (Y := YX9_dropFirst) dX9_dropFirst_9 ?_
  refine r_bipush (Y := YX9_dropFirst) dX9_dropFirst_10 ?_
  refine r_iload_n (Y := YX9_dropFirst) dX9_dropFirst_12 rfl ?_
  refine r_imul (Y := YX9_dropFirst) dX9_dropFirst_13 ?_
  refine r_istore_n (Y := YX9_dropFirst) dX9_dropFirst_14 ?_
  suffices hloop : ∀ (k j : Nat) (τ : ab_S), j + k = L.length → (∀ i : Int, 0 ≤ i → i < j → τ (m + 16) (8 * r + i) = σ (m + 16) (8 * r + i + 1) ∧ τ (m + 17) (8 * r + i) = σ (m + 17) (8 * r + i + 1) ∧ τ (m + 18) (8 * r + i) = σ (m + 18) (8 * r + i + 1)) → τ (m + 19) r = L.length → (∀ k i : Int, ¬ ((k = m + 16 ∨ k = m + 17 ∨ k = m + 18) ∧ 8 * r ≤ i ∧ i < 8 * r + j) → ¬ (k = m + 19 ∧ i = r) → τ k i = σ k i) → R2 YX9_dropFirst 0 τ 15 [some (rf m), some (iv r), some (iv (8 * r + (j : Int)))] [] (PV fun σ' => RK σ' m r L ∧ FO σ σ' m r) from by
    have h0 := hloop L.length 0 (up σ (m + 19) r ((L.length : Int) + 1 - 1)) (by omega) (fun i a b => by omega) (by rw [up_same]; omega) (fun k i a b => by (try delta up); (try delta cpy); (try dsimp only); repeat (first | rw [if_pos (by omega)] | rw [if_neg (by omega)]); try (first | rfl | assumption | omega))
    rw [show 8 * r + ((0 : Nat) : Int) = 8 * r by omega] at h0
    exact R2.weak (by repeat first | exact trivial | refine And.intro rfl ?_) h0
  intro k
  induction k with
  | zero =>
    intro j τ e1 e2 e3 hF
    have e4 : j = L.length := by omega
    subst e4
    refine r_iload_n (Y := YX9_dropFirst) dX9_dropFirst_15 rfl ?_
    refine r_bipush (Y := YX9_dropFirst) dX9_dropFirst_16 ?_
    refine r_iload_n (Y := YX9_dropFirst) dX9_dropFirst_18 rfl ?_
    refine r_imul (Y := YX9_dropFirst) dX9_dropFirst_19 ?_
    refine r_aload_n (Y := YX9_dropFirst) dX9_dropFirst_20 rfl ?_
    refine r_getR (Y := YX9_dropFirst) (δz := 19) fl_X9_64 dX9_dropFirst_21 rfl rfl ?_
    refine r_iload_n (Y := YX9_dropFirst) dX9_dropFirst_24 rfl ?_
    refine r_iaV (Y := YX9_dropFirst) (v := (L.length : Int)) dX9_dropFirst_25 (e3) ?_
    refine r_iadd (Y := YX9_dropFirst) dX9_dropFirst_26 ?_
    refine r_icmp_ge (Y := YX9_dropFirst) (tgt := 78) dX9_dropFirst_27 (by decide) (fun c27 => ?_) (fun c27 => absurd c27 (by omega)) 
    refine r_return (Y := YX9_dropFirst) dX9_dropFirst_78 ?_
    refine ⟨⟨e3, fun i q hq => ?_⟩, fun k i a b => hF k i (by omega) b⟩
    have hi := (List.getElem?_eq_some_iff.mp hq).1
    have h2 := e2 i (by omega) (by omega)
    have h3 := hR.2 (i + 1) q (by rw [List.getElem?_cons_succ]; exact hq)
    rw [h2.1, h2.2.1, h2.2.2, show 8 * r + (i : Int) + 1 = 8 * r + ((i + 1 : Nat) : Int) by omega]
    exact h3
  | succ k ih =>
    intro j τ e1 e2 e3 hF
    have ih := ih (j + 1)
    rw [show 8 * r + ((j + 1 : Nat) : Int) = 8 * r + (j : Int) + 1 by omega] at ih
    refine r_iload_n (Y := YX9_dropFirst) dX9_dropFirst_15 rfl ?_
    refine r_bipush (Y := YX9_dropFirst) dX9_dropFirst_16 ?_
    refine r_iload_n (Y := YX9_dropFirst) dX9_dropFirst_18 rfl ?_
    refine r_imul (Y := YX9_dropFirst) dX9_dropFirst_19 ?_
    refine r_aload_n (Y := YX9_dropFirst) dX9_dropFirst_20 rfl ?_
    refine r_getR (Y := YX9_dropFirst) (δz := 19) fl_X9_64 dX9_dropFirst_21 rfl rfl ?_
    refine r_iload_n (Y := YX9_dropFirst) dX9_dropFirst_24 rfl ?_
    refine r_iaV (Y := YX9_dropFirst) (v := (L.length : Int)) dX9_dropFirst_25 (e3) ?_
    refine r_iadd (Y := YX9_dropFirst) dX9_dropFirst_26 ?_
    refine r_icmp_ge (Y := YX9_dropFirst) (tgt := 78) dX9_dropFirst_27 (by decide) (fun c27 => absurd c27 (by omega)) (fun c27 => ?_) 
    refine r_aload_n (Y := YX9_dropFirst) dX9_dropFirst_30 rfl ?_
    refine r_getR (Y := YX9_dropFirst) (δz := 16) fl_X9_55 dX9_dropFirst_31 rfl rfl ?_
    refine r_iload_n (Y := YX9_dropFirst) dX9_dropFirst_34 rfl ?_
    refine r_aload_n (Y := YX9_dropFirst) dX9_dropFirst_35 rfl ?_
    refine r_getR (Y := YX9_dropFirst) (δz := 16) fl_X9_55 dX9_dropFirst_36 rfl rfl ?_
    refine r_iload_n (Y := YX9_dropFirst) dX9_dropFirst_39 rfl ?_
    refine r_iconst (Y := YX9_dropFirst) dX9_dropFirst_40 ?_
    refine r_iadd (Y := YX9_dropFirst) dX9_dropFirst_41 ?_
    refine r_iaV (Y := YX9_dropFirst) (v := σ (m + 16) (8 * r + (j : Int) + 1)) dX9_dropFirst_42 ((Eq.trans (b := τ (m + 16) (8 * r + (j : Int) + 1)) (by (try delta up); (try delta cpy); (try dsimp only); repeat (first | rw [if_pos (by omega)] | rw [if_neg (by omega)]); try (first | rfl | assumption | omega)) (hF _ _ (by omega) (by omega)))) ?_
    refine r_iastore (Y := YX9_dropFirst) dX9_dropFirst_43 ?_
    refine r_aload_n (Y := YX9_dropFirst) dX9_dropFirst_44 rfl ?_
    refine r_getR (Y := YX9_dropFirst) (δz := 17) fl_X9_58 dX9_dropFirst_45 rfl rfl ?_
    refine r_iload_n (Y := YX9_dropFirst) dX9_dropFirst_48 rfl ?_
    refine r_aload_n (Y := YX9_dropFirst) dX9_dropFirst_49 rfl ?_
    refine r_getR (Y := YX9_dropFirst) (δz := 17) fl_X9_58 dX9_dropFirst_50 rfl rfl ?_
    refine r_iload_n (Y := YX9_dropFirst) dX9_dropFirst_53 rfl ?_
    refine r_iconst (Y := YX9_dropFirst) dX9_dropFirst_54 ?_
    refine r_iadd (Y := YX9_dropFirst) dX9_dropFirst_55 ?_
    refine r_iaV (Y := YX9_dropFirst) (v := σ (m + 17) (8 * r + (j : Int) + 1)) dX9_dropFirst_56 ((Eq.trans (b := τ (m + 17) (8 * r + (j : Int) + 1)) (by (try delta up); (try delta cpy); (try dsimp only); repeat (first | rw [if_pos (by omega)] | rw [if_neg (by omega)]); try (first | rfl | assumption | omega)) (hF _ _ (by omega) (by omega)))) ?_
    refine r_iastore (Y := YX9_dropFirst) dX9_dropFirst_57 ?_
    refine r_aload_n (Y := YX9_dropFirst) dX9_dropFirst_58 rfl ?_
    refine r_getR (Y := YX9_dropFirst) (δz := 18) fl_X9_61 dX9_dropFirst_59 rfl rfl ?_
    refine r_iload_n (Y := YX9_dropFirst) dX9_dropFirst_62 rfl ?_
    refine r_aload_n (Y := YX9_dropFirst) dX9_dropFirst_63 rfl ?_
    refine r_getR (Y := YX9_dropFirst) (δz := 18) fl_X9_61 dX9_dropFirst_64 rfl rfl ?_
    refine r_iload_n (Y := YX9_dropFirst) dX9_dropFirst_67 rfl ?_
    refine r_iconst (Y := YX9_dropFirst) dX9_dropFirst_68 ?_
    refine r_iadd (Y := YX9_dropFirst) dX9_dropFirst_69 ?_
    refine r_iaV (Y := YX9_dropFirst) (v := σ (m + 18) (8 * r + (j : Int) + 1)) dX9_dropFirst_70 ((Eq.trans (b := τ (m + 18) (8 * r + (j : Int) + 1)) (by (try delta up); (try delta cpy); (try dsimp only); repeat (first | rw [if_pos (by omega)] | rw [if_neg (by omega)]); try (first | rfl | assumption | omega)) (hF _ _ (by omega) (by omega)))) ?_
    refine r_iastore (Y := YX9_dropFirst) dX9_dropFirst_71 ?_
    refine r_iinc (Y := YX9_dropFirst) dX9_dropFirst_72 rfl ?_
    refine r_goto (Y := YX9_dropFirst) (tgt := 15) dX9_dropFirst_75 (by decide) ?_
    refine R2.weak (by repeat first | exact trivial | refine And.intro rfl ?_) (ih _ (by omega) (fun i a b => ?_) (by rw [← e3]; exact (by (try delta up); (try delta cpy); (try dsimp only); repeat (first | rw [if_pos (by omega)] | rw [if_neg (by omega)]); try (first | rfl | assumption | omega))) (fun k i a b => by rw [← hF k i (by omega) b]; exact (by (try delta up); (try delta cpy); (try dsimp only); repeat (first | rw [if_pos (by omega)] | rw [if_neg (by omega)]); try (first | rfl | assumption | omega))))
    by_cases e : i = j
    · subst e; exact ⟨by (try delta up); (try delta cpy); (try dsimp only); repeat (first | rw [if_pos (by omega)] | rw [if_neg (by omega)]); try (first | rfl | assumption | omega), by (try delta up); (try delta cpy); (try dsimp only); repeat (first | rw [if_pos (by omega)] | rw [if_neg (by omega)]); try (first | rfl | assumption | omega), by (try delta up); (try delta cpy); (try dsimp only); repeat (first | rw [if_pos (by omega)] | rw [if_neg (by omega)]); try (first | rfl | assumption | omega)⟩
    · have h2 := e2 i a (by omega)
      rw [← h2.1, ← h2.2.1, ← h2.2.2]
      exact ⟨by (try delta up); (try delta cpy); (try dsimp only); repeat (first | rw [if_pos (by omega)] | rw [if_neg (by omega)]); try (first | rfl | assumption | omega), by (try delta up); (try delta cpy); (try dsimp only); repeat (first | rw [if_pos (by omega)] | rw [if_neg (by omega)]); try (first | rfl | assumption | omega), by (try delta up); (try delta cpy); (try dsimp only); repeat (first | rw [if_pos (by omega)] | rw [if_neg (by omega)]); try (first | rfl | assumption | omega)⟩
set_option maxRecDepth 20000 in
theorem c_X9_powerOf {σ : ab_S} {m : Int} (hm : kd_ m 9 37) {r : Int} {B : AB} (hr1 : 0 ≤ r) (hr2 : r < 4) (hM : MT σ m B) (hW : WA B) : C2 YX9_powerOf 0 σ [rf m, iv r] (PI fun σ' z => σ' = σ ∧ z = powL (aS B) (aR B r)) := by
  obtain ⟨k1, k2, k3, k4, k5, k6, k7, k8, k9, k10, k11, k12, k13, k14, k15, k16, k17, k18, k19, k20, k21, k22, k23, k24, k25, k26⟩ := kd_model hm
  have hR := hM.2.2.2.2.1 r hr1 hr2
  have hWL := hW.2.2.2.1 r hr1 hr2
  have hl8 := hWL.1
  refine C2.of (by decide +kernel) (Nat.le_of_ble_eq_true rfl) ?_
  refine r_iconst (Y := YX9_powerOf) dX9_powerOf_0 ?_
  refine r_istore_n (Y := YX9_powerOf) dX9_powerOf_1 ?_
  refine r_bipush (Y := YX9_powerOf) dX9_powerOf_2 ?_
  refine r_iload_n (Y := YX9_powerOf) dX9_powerOf_4 rfl ?_
  refine r_imul (Y := YX9_powerOf) dX9_powerOf_5 ?_
  refine r_istore_n (Y := YX9_powerOf) dX9_powerOf_6 ?_
  suffices hloop : ∀ (rest : List Lk) (j : Nat) (p : Int), (aR B r).drop j = rest → j ≤ (aR B r).length → p + powL (aS B) rest = powL (aS B) (aR B r) → R2 YX9_powerOf 0 σ 7 [some (rf m), some (iv r), some (iv p), some (iv (8 * r + (j : Int)))] [] (PI fun σ' z => σ' = σ ∧ z = powL (aS B) (aR B r)) from by
    have h0 := hloop (aR B r) 0 0 rfl (by omega) (by omega)
    rw [show 8 * r + ((0 : Nat) : Int) = 8 * r by omega] at h0
    exact R2.weak (by repeat first | exact trivial | refine And.intro rfl ?_) h0
  intro rest
  induction rest with
  | nil =>
    intro j p e1 e2 e3
    have e4 : (aR B r).length ≤ j := List.drop_eq_nil_iff.mp e1
    have e5 : p + 0 = powL (aS B) (aR B r) := e3
    refine r_iload_n (Y := YX9_powerOf) dX9_powerOf_7 rfl ?_
    refine r_bipush (Y := YX9_powerOf) dX9_powerOf_8 ?_
    refine r_iload_n (Y := YX9_powerOf) dX9_powerOf_10 rfl ?_
    refine r_imul (Y := YX9_powerOf) dX9_powerOf_11 ?_
    refine r_aload_n (Y := YX9_powerOf) dX9_powerOf_12 rfl ?_
    refine r_getR (Y := YX9_powerOf) (δz := 19) fl_X9_64 dX9_powerOf_13 rfl rfl ?_
    refine r_iload_n (Y := YX9_powerOf) dX9_powerOf_16 rfl ?_
    refine r_iaV (Y := YX9_powerOf) (v := ((aR B r).length : Int)) dX9_powerOf_17 (hR.1) ?_
    refine r_iadd (Y := YX9_powerOf) dX9_powerOf_18 ?_
    refine r_icmp_ge (Y := YX9_powerOf) (tgt := 49) dX9_powerOf_19 (by decide) (fun c19 => ?_) (fun c19 => absurd c19 (by omega)) 
    refine r_iload_n (Y := YX9_powerOf) dX9_powerOf_49 rfl ?_
    refine r_ireturn (Y := YX9_powerOf) dX9_powerOf_50 ?_
    exact ⟨rfl, by omega⟩
  | cons l rest ih =>
    intro j p e1 e2 e3
    have e4 : j < (aR B r).length := by
      apply Decidable.byContradiction
      intro h
      rw [List.drop_eq_nil_of_le (by omega)] at e1
      cases e1
    have e5 : (aR B r)[j]? = some l := by
      have := congrArg List.head? e1
      rwa [List.head?_drop] at this
    have e6 : (aR B r).drop (j + 1) = rest := by
      have := congrArg List.tail e1
      rwa [List.tail_drop] at this
    have hl := hWL.2 l (List.mem_of_getElem? e5)
    have hl1 := hl.1
    have hl2 := hl.2.1
    have hv := hR.2 j l e5
    have e7 : p + (l.2.1 * aS B l.1 + powL (aS B) rest) = powL (aS B) (aR B r) := e3
    have ih := ih (j + 1) (p + l.2.1 * aS B l.1) e6 (by omega) (by omega)
    rw [show 8 * r + ((j + 1 : Nat) : Int) = 8 * r + (j : Int) + 1 by omega] at ih
    refine r_iload_n (Y := YX9_powerOf) dX9_powerOf_7 rfl ?_
    refine r_bipush (Y := YX9_powerOf) dX9_powerOf_8 ?_
    refine r_iload_n (Y := YX9_powerOf) dX9_powerOf_10 rfl ?_
    refine r_imul (Y := YX9_powerOf) dX9_powerOf_11 ?_
    refine r_aload_n (Y := YX9_powerOf) dX9_powerOf_12 rfl ?_
    refine r_getR (Y := YX9_powerOf) (δz := 19) fl_X9_64 dX9_powerOf_13 rfl rfl ?_
    refine r_iload_n (Y := YX9_powerOf) dX9_powerOf_16 rfl ?_
    refine r_iaV (Y := YX9_powerOf) (v := ((aR B r).length : Int)) dX9_powerOf_17 (hR.1) ?_
    refine r_iadd (Y := YX9_powerOf) dX9_powerOf_18 ?_
    refine r_icmp_ge (Y := YX9_powerOf) (tgt := 49) dX9_powerOf_19 (by decide) (fun c19 => absurd c19 (by omega)) (fun c19 => ?_) 
    refine r_iload_n (Y := YX9_powerOf) dX9_powerOf_22 rfl ?_
    refine r_aload_n (Y := YX9_powerOf) dX9_powerOf_23 rfl ?_
    refine r_getR (Y := YX9_powerOf) (δz := 17) fl_X9_58 dX9_powerOf_24 rfl rfl ?_
    refine r_iload_n (Y := YX9_powerOf) dX9_powerOf_27 rfl ?_
    refine r_iaV (Y := YX9_powerOf) (v := l.2.1) dX9_powerOf_28 (hv.2.1) ?_
    refine r_aload_n (Y := YX9_powerOf) dX9_powerOf_29 rfl ?_
    refine r_getR (Y := YX9_powerOf) (δz := 2) fl_X9_13 dX9_powerOf_30 rfl rfl ?_
    refine r_aload_n (Y := YX9_powerOf) dX9_powerOf_33 rfl ?_
    refine r_getR (Y := YX9_powerOf) (δz := 16) fl_X9_55 dX9_powerOf_34 rfl rfl ?_
    refine r_iload_n (Y := YX9_powerOf) dX9_powerOf_37 rfl ?_
    refine r_iaV (Y := YX9_powerOf) (v := l.1) dX9_powerOf_38 (hv.1) ?_
    refine r_iaV (Y := YX9_powerOf) (v := aS B l.1) dX9_powerOf_39 (hM.2.1 l.1 hl.1 hl.2.1) ?_
    refine r_imul (Y := YX9_powerOf) dX9_powerOf_40 ?_
    refine r_iadd (Y := YX9_powerOf) dX9_powerOf_41 ?_
    refine r_istore_n (Y := YX9_powerOf) dX9_powerOf_42 ?_
    refine r_iinc (Y := YX9_powerOf) dX9_powerOf_43 rfl ?_
    refine r_goto (Y := YX9_powerOf) (tgt := 7) dX9_powerOf_46 (by decide) ?_
    exact R2.weak (by repeat first | exact trivial | refine And.intro rfl ?_) ih
