/-! answers of yes and no, split -/
theorem zz_of {c : Prop} [Decidable c] {z : Int} (h : z = if c then 1 else 0) : (z = 1 ∧ c) ∨ (z = 0 ∧ ¬ c) := by
  by_cases hc : c
  · rw [if_pos hc] at h; exact Or.inl ⟨h, hc⟩
  · rw [if_neg hc] at h; exact Or.inr ⟨h, hc⟩
theorem PI_zz {Y : ab_Y} {d : Nat} {σ : ab_S} {av : List Value} {c : Prop} [Decidable c] (h : C2 Y d σ av (PI fun σ' z => σ' = σ ∧ z = if c then 1 else 0)) : C2 Y d σ av (PI fun σ' z => σ' = σ ∧ ((z = 1 ∧ c) ∨ (z = 0 ∧ ¬ c))) := C2.mono h (fun _ _ ⟨z, e, h1, h2⟩ => ⟨z, e, h1, zz_of h2⟩)
theorem c_isIn {σ : ab_S} {v lo hi : Int} (h1 : -2147483648 ≤ v) (h2 : v ≤ 2147483647) (h3 : -2147483648 ≤ lo) (h4 : lo ≤ 2147483647) (h5 : -2147483648 ≤ hi) (h6 : hi ≤ 2147483647) : C2 YX8_isIn 0 σ [iv v, iv lo, iv hi] (PI fun σ' z => σ' = σ ∧ ((z = 1 ∧ (lo ≤ v ∧ v ≤ hi)) ∨ (z = 0 ∧ ¬ (lo ≤ v ∧ v ≤ hi)))) := PI_zz (c_X8_isIn σ v lo hi h1 h2 h3 h4 h5 h6)
theorem c_in {σ : ab_S} {v lo hi : Int} (h1 : -2147483648 ≤ v) (h2 : v ≤ 2147483647) (h3 : -2147483648 ≤ lo) (h4 : lo ≤ 2147483647) (h5 : -2147483648 ≤ hi) (h6 : hi ≤ 2147483647) : C2 YX9_in 0 σ [lgv v, lgv lo, lgv hi] (PI fun σ' z => σ' = σ ∧ ((z = 1 ∧ (lo ≤ v ∧ v ≤ hi)) ∨ (z = 0 ∧ ¬ (lo ≤ v ∧ v ≤ hi)))) := PI_zz (c_X9_in σ v lo hi (by omega) (by omega) (by omega) (by omega) (by omega) (by omega))
theorem c_isMonk {σ : ab_S} {x : Int} (h1 : -2147483648 ≤ x) (h2 : x ≤ 2147483647) : C2 YX9_isMonk 1 σ [iv x] (PI fun σ' z => σ' = σ ∧ ((z = 1 ∧ (0 ≤ x ∧ x ≤ 5)) ∨ (z = 0 ∧ ¬ (0 ≤ x ∧ x ≤ 5)))) := PI_zz (c_X9_isMonk σ x h1 h2)
theorem c_isRope {σ : ab_S} {x : Int} (h1 : -2147483648 ≤ x) (h2 : x ≤ 2147483647) : C2 YX9_isRope 1 σ [iv x] (PI fun σ' z => σ' = σ ∧ ((z = 1 ∧ (0 ≤ x ∧ x ≤ 3)) ∨ (z = 0 ∧ ¬ (0 ≤ x ∧ x ≤ 3)))) := PI_zz (c_X9_isRope σ x h1 h2)
/-! pairs -/
def RP (σ : ab_S) (p : Int) (xs : List (Int × Int)) : Prop := σ p 2 = xs.length ∧ ∀ (i : Nat) (q : Int × Int), xs[i]? = some q → σ (p + 1) i = q.1 ∧ σ (p + 2) i = q.2
theorem RP.kept {σ τ : ab_S} {p : Int} {xs : List (Int × Int)} (h : RP σ p xs) (hf : ∀ k i : Int, p ≤ k → k ≤ p + 2 → τ k i = σ k i) : RP τ p xs :=
  ⟨by rw [hf p 2 (by omega) (by omega)]; exact h.1, fun i l hl => by
    obtain ⟨f1, f2⟩ := h.2 i l hl
    exact ⟨by rw [hf _ _ (by omega) (by omega)]; exact f1, by rw [hf _ _ (by omega) (by omega)]; exact f2⟩⟩
def FI (σ τ : ab_S) (a b : Int) : Prop := ∀ k i : Int, k < a ∨ b < k → τ k i = σ k i
set_option maxRecDepth 20000 in
theorem c_X3_clear {σ : ab_S} {p : Int} {xs : List (Int × Int)} (hp : kd_ p 3 3) (hR : RP σ p xs) (hL : xs.length ≤ 6) : C2 YX3_clear 0 σ [rf p] (PI fun σ' z => z = xs.length ∧ RP σ' p [] ∧ FI σ σ' p (p + 2)) := by
  obtain ⟨k1, k2⟩ := kd_pairs hp
  refine C2.of (by decide +kernel) (Nat.le_of_ble_eq_true rfl) ?_
  refine r_aload_n (Y := YX3_clear) dX3_clear_0 rfl ?_
  refine r_getV (Y := YX3_clear) (v := (xs.length : Int)) (jz := 2) fl_X3_18 dX3_clear_1 (hR.1) ?_
  refine r_istore_n (Y := YX3_clear) dX3_clear_4 ?_
  refine r_aload_n (Y := YX3_clear) dX3_clear_5 rfl ?_
  refine r_iconst (Y := YX3_clear) dX3_clear_6 ?_
  refine r_putI (Y := YX3_clear) (jz := 2) fp_X3_18 dX3_clear_7 ?_
  refine r_iload_n (Y := YX3_clear) dX3_clear_10 rfl ?_
  refine r_ireturn (Y := YX3_clear) dX3_clear_11 ?_
  exact ⟨rfl, ⟨by (try delta up); (try delta cpy); (try dsimp only); repeat (first | rw [if_pos (by omega)] | rw [if_neg (by omega)]); try (first | rfl | assumption | omega), fun i q h => by simp at h⟩, fun k i h9 => by (try delta up); (try delta cpy); (try dsimp only); repeat (first | rw [if_pos (by omega)] | rw [if_neg (by omega)]); try (first | rfl | assumption | omega)⟩
set_option maxRecDepth 20000 in
theorem c_X3_put {σ : ab_S} {p : Int} {xs : List (Int × Int)} (hp : kd_ p 3 3) (hR : RP σ p xs) (hL : xs.length ≤ 6) {u v : Int} : C2 YX3_put 0 σ [rf p, iv u, iv v] (PI fun σ' z => (z = 1 ∧ xs.length < 6 ∧ RP σ' p (xs ++ [(u, v)]) ∨ z = 0 ∧ xs.length = 6 ∧ RP σ' p xs) ∧ FI σ σ' p (p + 2)) := by
  obtain ⟨k1, k2⟩ := kd_pairs hp
  refine C2.of (by decide +kernel) (Nat.le_of_ble_eq_true rfl) ?_
  refine r_aload_n (Y := YX3_put) dX3_put_0 rfl ?_
  refine r_getV (Y := YX3_put) (v := (xs.length : Int)) (jz := 2) fl_X3_18 dX3_put_1 (hR.1) ?_
  refine r_bipush (Y := YX3_put) dX3_put_4 ?_
  refine r_icmp_lt (Y := YX3_put) (tgt := 11) dX3_put_6 (by decide) (fun c6 => ?_) (fun c6 => ?_) 
  · refine r_aload_n (Y := YX3_put) dX3_put_11 rfl ?_
    refine r_getR (Y := YX3_put) (δz := 1) fl_X3_9 dX3_put_12 rfl rfl ?_
    refine r_aload_n (Y := YX3_put) dX3_put_15 rfl ?_
    refine r_getV (Y := YX3_put) (v := (xs.length : Int)) (jz := 2) fl_X3_18 dX3_put_16 (hR.1) ?_
    refine r_iload_n (Y := YX3_put) dX3_put_19 rfl ?_
    refine r_iastore (Y := YX3_put) dX3_put_20 ?_
    refine r_aload_n (Y := YX3_put) dX3_put_21 rfl ?_
    refine r_getR (Y := YX3_put) (δz := 2) fl_X3_15 dX3_put_22 rfl rfl ?_
    refine r_aload_n (Y := YX3_put) dX3_put_25 rfl ?_
    refine r_getV (Y := YX3_put) (v := (xs.length : Int)) (jz := 2) fl_X3_18 dX3_put_26 ((by rw [← hR.1]; exact (by (try delta up); (try delta cpy); (try dsimp only); repeat (first | rw [if_pos (by omega)] | rw [if_neg (by omega)]); try (first | rfl | assumption | omega)))) ?_
    refine r_iload_n (Y := YX3_put) dX3_put_29 rfl ?_
    refine r_iastore (Y := YX3_put) dX3_put_30 ?_
    refine r_aload_n (Y := YX3_put) dX3_put_31 rfl ?_
    refine r_dup (Y := YX3_put) dX3_put_32 ?_
    refine r_getV (Y := YX3_put) (v := (xs.length : Int)) (jz := 2) fl_X3_18 dX3_put_33 ((by rw [← hR.1]; exact (by (try delta up); (try delta cpy); (try dsimp only); repeat (first | rw [if_pos (by omega)] | rw [if_neg (by omega)]); try (first | rfl | assumption | omega)))) ?_
    refine r_iconst (Y := YX3_put) dX3_put_36 ?_
    refine r_iadd (Y := YX3_put) dX3_put_37 ?_
    refine r_putI (Y := YX3_put) (jz := 2) fp_X3_18 dX3_put_38 ?_
    refine r_iconst (Y := YX3_put) dX3_put_41 ?_
    refine r_zreturn (Y := YX3_put) dX3_put_42 (by decide) ?_
    refine ⟨Or.inl ⟨rfl, by omega, ⟨by rw [List.length_append]; show _ = ((xs.length + 1 : Nat) : Int); exact (by (try delta up); (try delta cpy); (try dsimp only); repeat (first | rw [if_pos (by omega)] | rw [if_neg (by omega)]); try (first | rfl | assumption | omega)), fun i q hq => ?_⟩⟩, fun k i h9 => by (try delta up); (try delta cpy); (try dsimp only); repeat (first | rw [if_pos (by omega)] | rw [if_neg (by omega)]); try (first | rfl | assumption | omega)⟩
    by_cases hi : i < xs.length
    · rw [List.getElem?_append_left hi] at hq
      obtain ⟨f1, f2⟩ := hR.2 i q hq
      rw [← f1, ← f2]
      exact ⟨by (try delta up); (try delta cpy); (try dsimp only); repeat (first | rw [if_pos (by omega)] | rw [if_neg (by omega)]); try (first | rfl | assumption | omega), by (try delta up); (try delta cpy); (try dsimp only); repeat (first | rw [if_pos (by omega)] | rw [if_neg (by omega)]); try (first | rfl | assumption | omega)⟩
    · rw [List.getElem?_append_right (by omega)] at hq
      have hz : i - xs.length < 1 := (List.getElem?_eq_some_iff.mp hq).1
      have hi2 : i = xs.length := by omega
      subst hi2
      rw [Nat.sub_self] at hq
      cases hq
      exact ⟨by (try delta up); (try delta cpy); (try dsimp only); repeat (first | rw [if_pos (by omega)] | rw [if_neg (by omega)]); try (first | rfl | assumption | omega), by (try delta up); (try delta cpy); (try dsimp only); repeat (first | rw [if_pos (by omega)] | rw [if_neg (by omega)]); try (first | rfl | assumption | omega)⟩
  · refine r_iconst (Y := YX3_put) dX3_put_9 ?_
    refine r_zreturn (Y := YX3_put) dX3_put_10 (by decide) ?_
    exact ⟨Or.inr ⟨rfl, by omega, hR⟩, fun _ _ _ => rfl⟩
set_option maxRecDepth 20000 in
theorem c_X3_become {σ : ab_S} {p r : Int} {xs : List (Int × Int)} (hp : kd_ p 3 3) (hr : kd_ r 3 3) (hR : RP σ r xs) (hL : xs.length ≤ 6) (hap : r + 2 < p ∨ p + 2 < r) : C2 YX3_become 1 σ [rf p, rf r] (PV fun σ' => RP σ' p xs ∧ FI σ σ' p (p + 2)) := by
  obtain ⟨k1, k2⟩ := kd_pairs hp
  obtain ⟨j1, j2⟩ := kd_pairs hr
  have hn := hR.1
  refine C2.of (by decide +kernel) (Nat.le_of_ble_eq_true rfl) ?_
  refine r_aload_n (Y := YX3_become) dX3_become_0 rfl ?_
  refine r_aload_n (Y := YX3_become) dX3_become_1 rfl ?_
  refine r_getV (Y := YX3_become) (v := (xs.length : Int)) (jz := 2) fl_X3_18 dX3_become_2 (hR.1) ?_
  refine r_putI (Y := YX3_become) (jz := 2) fp_X3_18 dX3_become_5 ?_
  refine r_aload_n (Y := YX3_become) dX3_become_8 rfl ?_
  refine r_getR (Y := YX3_become) (δz := 1) fl_X3_9 dX3_become_9 rfl rfl ?_
  refine r_iconst (Y := YX3_become) dX3_become_12 ?_
  refine r_aload_n (Y := YX3_become) dX3_become_13 rfl ?_
  refine r_getR (Y := YX3_become) (δz := 1) fl_X3_9 dX3_become_14 rfl rfl ?_
  refine r_iconst (Y := YX3_become) dX3_become_17 ?_
  refine r_aload_n (Y := YX3_become) dX3_become_18 rfl ?_
  refine r_getV (Y := YX3_become) (v := (xs.length : Int)) (jz := 2) fl_X3_18 dX3_become_19 (by (try delta up); (try delta cpy); (try dsimp only); repeat (first | rw [if_pos (by omega)] | rw [if_neg (by omega)]); try (first | rfl | assumption | omega)) ?_
  refine r_copy (Y := YX3_become) wa_X3_22 dX3_become_22 (by assumption) (by assumption) ?_
  refine r_aload_n (Y := YX3_become) dX3_become_25 rfl ?_
  refine r_getR (Y := YX3_become) (δz := 2) fl_X3_15 dX3_become_26 rfl rfl ?_
  refine r_iconst (Y := YX3_become) dX3_become_29 ?_
  refine r_aload_n (Y := YX3_become) dX3_become_30 rfl ?_
  refine r_getR (Y := YX3_become) (δz := 2) fl_X3_15 dX3_become_31 rfl rfl ?_
  refine r_iconst (Y := YX3_become) dX3_become_34 ?_
  refine r_aload_n (Y := YX3_become) dX3_become_35 rfl ?_
  refine r_getV (Y := YX3_become) (v := (xs.length : Int)) (jz := 2) fl_X3_18 dX3_become_36 (by (try delta up); (try delta cpy); (try dsimp only); repeat (first | rw [if_pos (by omega)] | rw [if_neg (by omega)]); try (first | rfl | assumption | omega)) ?_
  refine r_copy (Y := YX3_become) wa_X3_22 dX3_become_39 (by assumption) (by assumption) ?_
  refine r_return (Y := YX3_become) dX3_become_42 ?_
  refine ⟨⟨by (try delta up); (try delta cpy); (try dsimp only); repeat (first | rw [if_pos (by omega)] | rw [if_neg (by omega)]); try (first | rfl | assumption | omega), fun i q hq => ?_⟩, fun k i h9 => by (try delta up); (try delta cpy); (try dsimp only); repeat (first | rw [if_pos (by omega)] | rw [if_neg (by omega)]); try (first | rfl | assumption | omega)⟩
  have hi : i < xs.length := (List.getElem?_eq_some_iff.mp hq).1
  obtain ⟨f1, f2⟩ := hR.2 i q hq
  rw [← f1, ← f2]
  have e : (i : Int) = 0 + ((i : Int) - 0) := by omega
  refine ⟨?_, ?_⟩ <;> (conv => rhs; rw [e])
  · exact by (try delta up); (try delta cpy); (try dsimp only); repeat (first | rw [if_pos (by omega)] | rw [if_neg (by omega)]); try (first | rfl | assumption | omega)
  · exact by (try delta up); (try delta cpy); (try dsimp only); repeat (first | rw [if_pos (by omega)] | rw [if_neg (by omega)]); try (first | rfl | assumption | omega)
/-! what an image keeps: the abbey, loads, weighings -/
abbrev WH : Type := AB × List (Int × Int) × List (Int × Int)
def RW (σ : ab_S) (w : Int) (S : WH) : Prop := RA σ (w + 1) S.1 ∧ RP σ (w + 24) S.2.1 ∧ RP σ (w + 27) S.2.2
def WW (S : WH) : Prop := WA S.1 ∧ S.2.1.length ≤ 6 ∧ S.2.2.length ≤ 6
theorem RW.kept {σ τ : ab_S} {w : Int} {S : WH} (h : RW σ w S) (hf : ∀ k i : Int, w ≤ k → k ≤ w + 29 → k ≠ w + 7 → τ k i = σ k i) : RW τ w S :=
  ⟨h.1.kept (fun k i b1 b2 b3 => hf k i (by omega) (by omega) (by omega)), h.2.1.kept (fun k i b1 b2 => hf k i (by omega) (by omega) (by omega)), h.2.2.kept (fun k i b1 b2 => hf k i (by omega) (by omega) (by omega))⟩
set_option maxRecDepth 20000 in
theorem c_X6_become {σ : ab_S} {w v : Int} {S : WH} (hw : kd_ w 6 3) (hv : kd_ v 6 3) (hR : RW σ v S) (hW : WW S) (hap : v + 29 < w ∨ w + 29 < v) : C2 YX6_become 3 σ [rf w, rf v] (PV fun σ' => RW σ' w S ∧ FI σ σ' w (w + 29)) := by
  obtain ⟨k1, k2, k3⟩ := kd_whole hw
  obtain ⟨j1, j2, j3⟩ := kd_whole hv
  refine C2.of (by decide +kernel) (Nat.le_of_ble_eq_true rfl) ?_
  refine r_aload_n (Y := YX6_become) dX6_become_0 rfl ?_
  refine r_getR (Y := YX6_become) (δz := 1) fl_X6_10 dX6_become_1 rfl rfl ?_
  refine r_aload_n (Y := YX6_become) dX6_become_4 rfl ?_
  refine r_getR (Y := YX6_become) (δz := 1) fl_X6_10 dX6_become_5 rfl rfl ?_
  refine r_iV1V (Y := YX6_become) mv_X6_26 dX6_become_8 (c_X0_become k1 j1 hR.1 hW.1 (by omega)) (by assumption) (fun σ8 h8 => ?_)
  obtain ⟨b1, b2⟩ := h8
  have hP8 : RP σ8 (v + 24) S.2.1 := hR.2.1.kept (fun k i _ _ => b2 k i (by omega))
  refine r_aload_n (Y := YX6_become) dX6_become_11 rfl ?_
  refine r_getR (Y := YX6_become) (δz := 24) fl_X6_19 dX6_become_12 rfl rfl ?_
  refine r_aload_n (Y := YX6_become) dX6_become_15 rfl ?_
  refine r_getR (Y := YX6_become) (δz := 24) fl_X6_19 dX6_become_16 rfl rfl ?_
  refine r_iV1V (Y := YX6_become) mv_X6_30 dX6_become_19 (c_X3_become k2 j2 hP8 hW.2.1 (by omega)) (by assumption) (fun σ19 h19 => ?_)
  obtain ⟨b3, b4⟩ := h19
  have hP19 : RP σ19 (v + 27) S.2.2 := hR.2.2.kept (fun k i _ _ => by rw [b4 k i (by omega), b2 k i (by omega)])
  refine r_aload_n (Y := YX6_become) dX6_become_22 rfl ?_
  refine r_getR (Y := YX6_become) (δz := 27) fl_X6_23 dX6_become_23 rfl rfl ?_
  refine r_aload_n (Y := YX6_become) dX6_become_26 rfl ?_
  refine r_getR (Y := YX6_become) (δz := 27) fl_X6_23 dX6_become_27 rfl rfl ?_
  refine r_iV1V (Y := YX6_become) mv_X6_30 dX6_become_30 (c_X3_become k3 j3 hP19 hW.2.2 (by omega)) (by assumption) (fun σ30 h30 => ?_)
  obtain ⟨b5, b6⟩ := h30
  refine r_return (Y := YX6_become) dX6_become_33 ?_
  exact ⟨⟨b1.kept (fun k i _ _ _ => by rw [b6 k i (by omega), b4 k i (by omega)]), b3.kept (fun k i _ _ => b6 k i (by omega)), b5⟩, fun k i h9 => by rw [b6 k i (by omega), b4 k i (by omega), b2 k i (by omega)]⟩
/-! the pad -/
def RD (σ : ab_S) (p : Int) (xs : List Int) : Prop := σ p 1 = xs.length ∧ ∀ (i : Nat) (v : Int), xs[i]? = some v → σ (p + 1) i = v
theorem RD.kept {σ τ : ab_S} {p : Int} {xs : List Int} (h : RD σ p xs) (hf : ∀ k i : Int, p ≤ k → k ≤ p + 1 → τ k i = σ k i) : RD τ p xs :=
  ⟨by rw [hf p 1 (by omega) (by omega)]; exact h.1, fun i l hl => by rw [hf _ _ (by omega) (by omega)]; exact h.2 i l hl⟩
def WD (xs : List Int) : Prop := xs.length ≤ 60 ∧ ∀ v ∈ xs, 33 ≤ v ∧ v ≤ 126
def beh (e s : Int) : Int := if e = 0 then (if s = 46 then 0 else if 65 ≤ s ∧ s ≤ 70 then 1 else 3) else if e = 1 then (if s = 43 ∨ s = 45 then 2 else if 48 ≤ s ∧ s ≤ 51 then 0 else 3) else (if 49 ≤ s ∧ s ≤ 57 then 0 else 3)
theorem beh_bd (e s : Int) : 0 ≤ beh e s ∧ beh e s ≤ 3 := by
  unfold beh
  repeat' split
  all_goals omega
/-- the first fault behind a place, in a state -/
def fltL (e i : Int) : List Int → Int
  | [] => if e = 0 then -6 else i
  | s :: r => if beh e s = 3 then i else fltL (beh e s) (i + 1) r
def fault (xs : List Int) : Int := fltL 0 0 xs
theorem dropI_cons {L : List Int} {i : Nat} {l : Int} (h : L[i]? = some l) : L.drop i = l :: L.drop (i + 1) := by
  obtain ⟨hi, he⟩ := List.getElem?_eq_some_iff.mp h
  rw [List.drop_eq_getElem_cons hi, he]
theorem getI_some {L : List Int} {i : Nat} (h : i < L.length) : ∃ l, L[i]? = some l ∧ l ∈ L := ⟨L[i], List.getElem?_eq_getElem h, List.getElem_mem h⟩
theorem dropI_end {L : List Int} {i : Nat} (h : L.length ≤ i) : L.drop i = [] := List.drop_eq_nil_of_le h
set_option maxRecDepth 20000 in
theorem c_X2_clear {σ : ab_S} {p : Int} {xs : List Int} (hp : kd_ p 2 2) (hR : RD σ p xs) (hL : WD xs) : C2 YX2_clear 0 σ [rf p] (PI fun σ' z => z = xs.length ∧ RD σ' p [] ∧ FI σ σ' p (p + 1)) := by
  have k1 := kd_pad hp
  have hL1 := hL.1
  refine C2.of (by decide +kernel) (Nat.le_of_ble_eq_true rfl) ?_
  refine r_aload_n (Y := YX2_clear) dX2_clear_0 rfl ?_
  refine r_getV (Y := YX2_clear) (v := (xs.length : Int)) (jz := 1) fl_X2_15 dX2_clear_1 (hR.1) ?_
  refine r_istore_n (Y := YX2_clear) dX2_clear_4 ?_
  refine r_aload_n (Y := YX2_clear) dX2_clear_5 rfl ?_
  refine r_iconst (Y := YX2_clear) dX2_clear_6 ?_
  refine r_putI (Y := YX2_clear) (jz := 1) fp_X2_15 dX2_clear_7 ?_
  refine r_iload_n (Y := YX2_clear) dX2_clear_10 rfl ?_
  refine r_ireturn (Y := YX2_clear) dX2_clear_11 ?_
  exact ⟨rfl, ⟨by (try delta up); (try delta cpy); (try dsimp only); repeat (first | rw [if_pos (by omega)] | rw [if_neg (by omega)]); try (first | rfl | assumption | omega), fun i q h => by simp at h⟩, fun k i h9 => by (try delta up); (try delta cpy); (try dsimp only); repeat (first | rw [if_pos (by omega)] | rw [if_neg (by omega)]); try (first | rfl | assumption | omega)⟩
set_option maxRecDepth 20000 in
theorem c_X2_put {σ : ab_S} {p : Int} {xs : List Int} (hp : kd_ p 2 2) (hR : RD σ p xs) (hL : WD xs) {u : Int} : C2 YX2_put 0 σ [rf p, iv u] (PI fun σ' z => (z = 1 ∧ xs.length < 60 ∧ RD σ' p (xs ++ [u]) ∨ z = 0 ∧ xs.length = 60 ∧ RD σ' p xs) ∧ FI σ σ' p (p + 1)) := by
  have k1 := kd_pad hp
  have hL1 := hL.1
  refine C2.of (by decide +kernel) (Nat.le_of_ble_eq_true rfl) ?_
  refine r_aload_n (Y := YX2_put) dX2_put_0 rfl ?_
  refine r_getV (Y := YX2_put) (v := (xs.length : Int)) (jz := 1) fl_X2_15 dX2_put_1 (hR.1) ?_
  refine r_bipush (Y := YX2_put) dX2_put_4 ?_
  refine r_icmp_lt (Y := YX2_put) (tgt := 11) dX2_put_6 (by decide) (fun c6 => ?_) (fun c6 => ?_) 
  · refine r_aload_n (Y := YX2_put) dX2_put_11 rfl ?_
    refine r_getR (Y := YX2_put) (δz := 1) fl_X2_9 dX2_put_12 rfl rfl ?_
    refine r_aload_n (Y := YX2_put) dX2_put_15 rfl ?_
    refine r_getV (Y := YX2_put) (v := (xs.length : Int)) (jz := 1) fl_X2_15 dX2_put_16 (hR.1) ?_
    refine r_iload_n (Y := YX2_put) dX2_put_19 rfl ?_
    refine r_iastore (Y := YX2_put) dX2_put_20 ?_
    refine r_aload_n (Y := YX2_put) dX2_put_21 rfl ?_
    refine r_dup (Y := YX2_put) dX2_put_22 ?_
    refine r_getV (Y := YX2_put) (v := (xs.length : Int)) (jz := 1) fl_X2_15 dX2_put_23 ((by rw [← hR.1]; exact (by (try delta up); (try delta cpy); (try dsimp only); repeat (first | rw [if_pos (by omega)] | rw [if_neg (by omega)]); try (first | rfl | assumption | omega)))) ?_
    refine r_iconst (Y := YX2_put) dX2_put_26 ?_
    refine r_iadd (Y := YX2_put) dX2_put_27 ?_
    refine r_putI (Y := YX2_put) (jz := 1) fp_X2_15 dX2_put_28 ?_
    refine r_iconst (Y := YX2_put) dX2_put_31 ?_
    refine r_zreturn (Y := YX2_put) dX2_put_32 (by decide) ?_
    refine ⟨Or.inl ⟨rfl, by omega, ⟨by rw [List.length_append]; show _ = ((xs.length + 1 : Nat) : Int); exact (by (try delta up); (try delta cpy); (try dsimp only); repeat (first | rw [if_pos (by omega)] | rw [if_neg (by omega)]); try (first | rfl | assumption | omega)), fun i q hq => ?_⟩⟩, fun k i h9 => by (try delta up); (try delta cpy); (try dsimp only); repeat (first | rw [if_pos (by omega)] | rw [if_neg (by omega)]); try (first | rfl | assumption | omega)⟩
    by_cases hi : i < xs.length
    · rw [List.getElem?_append_left hi] at hq
      rw [← hR.2 i q hq]
      exact by (try delta up); (try delta cpy); (try dsimp only); repeat (first | rw [if_pos (by omega)] | rw [if_neg (by omega)]); try (first | rfl | assumption | omega)
    · rw [List.getElem?_append_right (by omega)] at hq
      have hz : i - xs.length < 1 := (List.getElem?_eq_some_iff.mp hq).1
      have hi2 : i = xs.length := by omega
      subst hi2
      rw [Nat.sub_self] at hq
      cases hq
      exact by (try delta up); (try delta cpy); (try dsimp only); repeat (first | rw [if_pos (by omega)] | rw [if_neg (by omega)]); try (first | rfl | assumption | omega)
  · refine r_iconst (Y := YX2_put) dX2_put_9 ?_
    refine r_zreturn (Y := YX2_put) dX2_put_10 (by decide) ?_
    exact ⟨Or.inr ⟨rfl, by omega, hR⟩, fun _ _ _ => rfl⟩
set_option maxRecDepth 20000 in
theorem c_X2_behind {σ : ab_S} {e s : Int} (he1 : 0 ≤ e) (he2 : e ≤ 2) (hs1 : -2147483648 ≤ s) (hs2 : s ≤ 2147483647) : C2 YX2_behind 1 σ [iv e, iv s] (PI fun σ' z => σ' = σ ∧ z = beh e s) := by
  refine C2.of (by decide +kernel) (Nat.le_of_ble_eq_true rfl) ?_
  refine r_iload_n (Y := YX2_behind) dX2_behind_0 rfl ?_
  rcases (show e = 0 ∨ e = 1 ∨ e = 2 by omega) with rfl | rfl | rfl
  · refine r_lookup (Y := YX2_behind) (off := 27) (tgt := 28) dX2_behind_1 (by decide) (by decide) (by decide) ?_
    refine r_iload_n (Y := YX2_behind) dX2_behind_28 rfl ?_
    refine r_bipush (Y := YX2_behind) dX2_behind_29 ?_
    refine r_icmp_ne (Y := YX2_behind) (tgt := 38) dX2_behind_31 (by decide) (fun c31 => ?_) (fun c31 => ?_) 
    · refine r_iload_n (Y := YX2_behind) dX2_behind_38 rfl ?_
      refine r_bipush (Y := YX2_behind) dX2_behind_39 ?_
      refine r_bipush (Y := YX2_behind) dX2_behind_41 ?_
      refine r_iN3I (Y := YX2_behind) mn_X2_23 dX2_behind_43 (c_isIn (by omega) (by omega) (by omega) (by omega) (by omega) (by omega)) (fun σ43 z43 h43 => ?_)
      obtain ⟨rfl, h43⟩ := h43
      refine r_if_eq (Y := YX2_behind) (tgt := 53) dX2_behind_46 (by decide) (fun c46 => ?_) (fun c46 => ?_) 
      · refine r_iconst (Y := YX2_behind) dX2_behind_53 ?_
        refine r_ireturn (Y := YX2_behind) dX2_behind_54 ?_
        refine ⟨rfl, ?_⟩
        show _ = (if s = 46 then 0 else if 65 ≤ s ∧ s ≤ 70 then 1 else 3)
        (repeat first | rw [if_pos (by omega)] | rw [if_neg (by omega)])
      · refine r_iconst (Y := YX2_behind) dX2_behind_49 ?_
        refine r_goto (Y := YX2_behind) (tgt := 54) dX2_behind_50 (by decide) ?_
        refine r_ireturn (Y := YX2_behind) dX2_behind_54 ?_
        refine ⟨rfl, ?_⟩
        show _ = (if s = 46 then 0 else if 65 ≤ s ∧ s ≤ 70 then 1 else 3)
        (repeat first | rw [if_pos (by omega)] | rw [if_neg (by omega)])
    · refine r_iconst (Y := YX2_behind) dX2_behind_34 ?_
      refine r_goto (Y := YX2_behind) (tgt := 54) dX2_behind_35 (by decide) ?_
      refine r_ireturn (Y := YX2_behind) dX2_behind_54 ?_
      refine ⟨rfl, ?_⟩
      show _ = (if s = 46 then 0 else if 65 ≤ s ∧ s ≤ 70 then 1 else 3)
      (repeat first | rw [if_pos (by omega)] | rw [if_neg (by omega)])
  · refine r_lookup (Y := YX2_behind) (off := 54) (tgt := 55) dX2_behind_1 (by decide) (by decide) (by decide) ?_
    refine r_iload_n (Y := YX2_behind) dX2_behind_55 rfl ?_
    refine r_bipush (Y := YX2_behind) dX2_behind_56 ?_
    refine r_icmp_eq (Y := YX2_behind) (tgt := 67) dX2_behind_58 (by decide) (fun c58 => ?_) (fun c58 => ?_) 
    · refine r_iconst (Y := YX2_behind) dX2_behind_67 ?_
      refine r_goto (Y := YX2_behind) (tgt := 87) dX2_behind_68 (by decide) ?_
      refine r_ireturn (Y := YX2_behind) dX2_behind_87 ?_
      refine ⟨rfl, ?_⟩
      show _ = (if s = 43 ∨ s = 45 then 2 else if 48 ≤ s ∧ s ≤ 51 then 0 else 3)
      (repeat first | rw [if_pos (by omega)] | rw [if_neg (by omega)])
    · refine r_iload_n (Y := YX2_behind) dX2_behind_61 rfl ?_
      refine r_bipush (Y := YX2_behind) dX2_behind_62 ?_
      refine r_icmp_ne (Y := YX2_behind) (tgt := 71) dX2_behind_64 (by decide) (fun c64 => ?_) (fun c64 => ?_) 
      · refine r_iload_n (Y := YX2_behind) dX2_behind_71 rfl ?_
        refine r_bipush (Y := YX2_behind) dX2_behind_72 ?_
        refine r_bipush (Y := YX2_behind) dX2_behind_74 ?_
        refine r_iN3I (Y := YX2_behind) mn_X2_23 dX2_behind_76 (c_isIn (by omega) (by omega) (by omega) (by omega) (by omega) (by omega)) (fun σ76 z76 h76 => ?_)
        obtain ⟨rfl, h76⟩ := h76
        refine r_if_eq (Y := YX2_behind) (tgt := 86) dX2_behind_79 (by decide) (fun c79 => ?_) (fun c79 => ?_) 
        · refine r_iconst (Y := YX2_behind) dX2_behind_86 ?_
          refine r_ireturn (Y := YX2_behind) dX2_behind_87 ?_
          refine ⟨rfl, ?_⟩
          show _ = (if s = 43 ∨ s = 45 then 2 else if 48 ≤ s ∧ s ≤ 51 then 0 else 3)
          (repeat first | rw [if_pos (by omega)] | rw [if_neg (by omega)])
        · refine r_iconst (Y := YX2_behind) dX2_behind_82 ?_
          refine r_goto (Y := YX2_behind) (tgt := 87) dX2_behind_83 (by decide) ?_
          refine r_ireturn (Y := YX2_behind) dX2_behind_87 ?_
          refine ⟨rfl, ?_⟩
          show _ = (if s = 43 ∨ s = 45 then 2 else if 48 ≤ s ∧ s ≤ 51 then 0 else 3)
          (repeat first | rw [if_pos (by omega)] | rw [if_neg (by omega)])
      · refine r_iconst (Y := YX2_behind) dX2_behind_67 ?_
        refine r_goto (Y := YX2_behind) (tgt := 87) dX2_behind_68 (by decide) ?_
        refine r_ireturn (Y := YX2_behind) dX2_behind_87 ?_
        refine ⟨rfl, ?_⟩
        show _ = (if s = 43 ∨ s = 45 then 2 else if 48 ≤ s ∧ s ≤ 51 then 0 else 3)
        (repeat first | rw [if_pos (by omega)] | rw [if_neg (by omega)])
  · refine r_lookup (Y := YX2_behind) (off := 87) (tgt := 88) dX2_behind_1 (by decide) (by decide) (by decide) ?_
    refine r_iload_n (Y := YX2_behind) dX2_behind_88 rfl ?_
    refine r_bipush (Y := YX2_behind) dX2_behind_89 ?_
    refine r_bipush (Y := YX2_behind) dX2_behind_91 ?_
    refine r_iN3I (Y := YX2_behind) mn_X2_23 dX2_behind_93 (c_isIn (by omega) (by omega) (by omega) (by omega) (by omega) (by omega)) (fun σ93 z93 h93 => ?_)
    obtain ⟨rfl, h93⟩ := h93
    refine r_if_eq (Y := YX2_behind) (tgt := 103) dX2_behind_96 (by decide) (fun c96 => ?_) (fun c96 => ?_) 
    · refine r_iconst (Y := YX2_behind) dX2_behind_103 ?_
      refine r_ireturn (Y := YX2_behind) dX2_behind_104 ?_
      refine ⟨rfl, ?_⟩
      show _ = (if 49 ≤ s ∧ s ≤ 57 then 0 else 3)
      (repeat first | rw [if_pos (by omega)] | rw [if_neg (by omega)])
    · refine r_iconst (Y := YX2_behind) dX2_behind_99 ?_
      refine r_goto (Y := YX2_behind) (tgt := 104) dX2_behind_100 (by decide) ?_
      refine r_ireturn (Y := YX2_behind) dX2_behind_104 ?_
      refine ⟨rfl, ?_⟩
      show _ = (if 49 ≤ s ∧ s ≤ 57 then 0 else 3)
      (repeat first | rw [if_pos (by omega)] | rw [if_neg (by omega)])
set_option maxRecDepth 20000 in
theorem c_X2_parts {σ : ab_S} {x : Int} (h1 : 0 ≤ x) (h2 : x ≤ 100000) : C2 YX2_parts 0 σ [iv x] (PI fun σ' z => σ' = σ ∧ z = x / 8) := by
  refine C2.of (by decide +kernel) (Nat.le_of_ble_eq_true rfl) ?_
  refine r_iload_n (Y := YX2_parts) dX2_parts_0 rfl ?_
  refine r_bipush (Y := YX2_parts) dX2_parts_1 ?_
  refine r_idiv (Y := YX2_parts) dX2_parts_3 ?_
  refine r_ireturn (Y := YX2_parts) dX2_parts_4 ?_
  exact ⟨rfl, rfl⟩
set_option maxRecDepth 20000 in
theorem c_X2_why {σ : ab_S} {x : Int} (h1 : 0 ≤ x) (h2 : x ≤ 100000) : C2 YX2_why 0 σ [iv x] (PI fun σ' z => σ' = σ ∧ z = x % 8) := by
  refine C2.of (by decide +kernel) (Nat.le_of_ble_eq_true rfl) ?_
  refine r_iload_n (Y := YX2_why) dX2_why_0 rfl ?_
  refine r_bipush (Y := YX2_why) dX2_why_1 ?_
  refine r_irem (Y := YX2_why) dX2_why_3 ?_
  refine r_ireturn (Y := YX2_why) dX2_why_4 ?_
  exact ⟨rfl, Int.tmod_eq_emod_of_nonneg h1⟩
set_option maxRecDepth 20000 in
theorem c_X2_firstFault {σ : ab_S} {p : Int} {xs : List Int} (hp : kd_ p 2 2) (hR : RD σ p xs) (hL : WD xs) : C2 YX2_firstFault 2 σ [rf p] (PI fun σ' z => σ' = σ ∧ z = fault xs) := by
  have k1 := kd_pad hp
  have hL1 := hL.1
  refine C2.of (by decide +kernel) (Nat.le_of_ble_eq_true rfl) ?_
  refine r_iconst (Y := YX2_firstFault) dX2_firstFault_0 ?_
  refine r_istore_n (Y := YX2_firstFault) dX2_firstFault_1 ?_
  refine r_iconst (Y := YX2_firstFault) dX2_firstFault_2 ?_
  refine r_istore_n (Y := YX2_firstFault) dX2_firstFault_3 ?_
  suffices hloop : ∀ (k i : Nat) (e : Int), i + k = xs.length → 0 ≤ e → e ≤ 2 → fltL e i (xs.drop i) = fault xs → R2 YX2_firstFault 2 σ 4 [some (rf p), some (iv e), some (iv i)] [] (PI fun σ' z => σ' = σ ∧ z = fault xs) from
    R2.weak (by repeat first | exact trivial | refine And.intro rfl ?_) (hloop xs.length 0 0 (by omega) (by omega) (by omega) (by rw [List.drop_zero]; rfl))
  intro k
  induction k with
  | zero =>
    intro i e e1 e2 e3 e4
    rw [dropI_end (by omega)] at e4
    have e5 : (if e = 0 then -6 else (i : Int)) = fault xs := e4
    refine r_iload_n (Y := YX2_firstFault) dX2_firstFault_4 rfl ?_
    refine r_aload_n (Y := YX2_firstFault) dX2_firstFault_5 rfl ?_
    refine r_getV (Y := YX2_firstFault) (v := (xs.length : Int)) (jz := 1) fl_X2_15 dX2_firstFault_6 (hR.1) ?_
    refine r_icmp_ge (Y := YX2_firstFault) (tgt := 36) dX2_firstFault_9 (by decide) (fun c9 => ?_) (fun c9 => absurd c9 (by omega)) 
    refine r_iload_n (Y := YX2_firstFault) dX2_firstFault_36 rfl ?_
    refine r_if_ne (Y := YX2_firstFault) (tgt := 45) dX2_firstFault_37 (by decide) (fun c37 => ?_) (fun c37 => ?_) 
    · refine r_aload_n (Y := YX2_firstFault) dX2_firstFault_45 rfl ?_
      refine r_getV (Y := YX2_firstFault) (v := (xs.length : Int)) (jz := 1) fl_X2_15 dX2_firstFault_46 (hR.1) ?_
      refine r_ireturn (Y := YX2_firstFault) dX2_firstFault_49 ?_
      refine ⟨rfl, ?_⟩
      rw [← e5]
      first | rw [if_pos (by omega)] | (rw [if_neg (by omega)]; omega)
    · refine r_bipush (Y := YX2_firstFault) dX2_firstFault_40 ?_
      refine r_goto (Y := YX2_firstFault) (tgt := 49) dX2_firstFault_42 (by decide) ?_
      refine r_ireturn (Y := YX2_firstFault) dX2_firstFault_49 ?_
      refine ⟨rfl, ?_⟩
      rw [← e5]
      first | rw [if_pos (by omega)] | (rw [if_neg (by omega)]; omega)
  | succ k ih =>
    intro i e e1 e2 e3 e4
    obtain ⟨s, hs, hm⟩ := getI_some (L := xs) (i := i) (by omega)
    have hsb := hL.2 s hm
    have hbb := beh_bd e s
    rw [dropI_cons hs] at e4
    have e5 : (if beh e s = 3 then (i : Int) else fltL (beh e s) (i + 1) (xs.drop (i + 1))) = fault xs := e4
    refine r_iload_n (Y := YX2_firstFault) dX2_firstFault_4 rfl ?_
    refine r_aload_n (Y := YX2_firstFault) dX2_firstFault_5 rfl ?_
    refine r_getV (Y := YX2_firstFault) (v := (xs.length : Int)) (jz := 1) fl_X2_15 dX2_firstFault_6 (hR.1) ?_
    refine r_icmp_ge (Y := YX2_firstFault) (tgt := 36) dX2_firstFault_9 (by decide) (fun c9 => absurd c9 (by omega)) (fun c9 => ?_) 
    refine r_iload_n (Y := YX2_firstFault) dX2_firstFault_12 rfl ?_
    refine r_aload_n (Y := YX2_firstFault) dX2_firstFault_13 rfl ?_
    refine r_getR (Y := YX2_firstFault) (δz := 1) fl_X2_9 dX2_firstFault_14 rfl rfl ?_
    refine r_iload_n (Y := YX2_firstFault) dX2_firstFault_17 rfl ?_
    refine r_iaV (Y := YX2_firstFault) (v := s) dX2_firstFault_18 (hR.2 i s hs) ?_
    refine r_iS2I (Y := YX2_firstFault) ms_X2_19 dX2_firstFault_19 (c_X2_behind e2 e3 (by omega) (by omega)) (fun σ19 z19 h19 => ?_)
    obtain ⟨rfl, rfl⟩ := h19
    refine r_istore_n (Y := YX2_firstFault) dX2_firstFault_22 ?_
    refine r_iload_n (Y := YX2_firstFault) dX2_firstFault_23 rfl ?_
    refine r_iconst (Y := YX2_firstFault) dX2_firstFault_24 ?_
    refine r_icmp_ne (Y := YX2_firstFault) (tgt := 30) dX2_firstFault_25 (by decide) (fun c25 => ?_) (fun c25 => ?_) 
    · refine r_iinc (Y := YX2_firstFault) dX2_firstFault_30 rfl ?_
      refine r_goto (Y := YX2_firstFault) (tgt := 4) dX2_firstFault_33 (by decide) ?_
      rw [if_neg (by omega)] at e5
      exact R2.weak (by repeat first | exact trivial | refine And.intro rfl ?_) (ih (i + 1) _ (by omega) (by omega) (by omega) e5)
    · refine r_iload_n (Y := YX2_firstFault) dX2_firstFault_28 rfl ?_
      refine r_ireturn (Y := YX2_firstFault) dX2_firstFault_29 ?_
      rw [if_pos (by omega)] at e5
      exact ⟨rfl, e5⟩
