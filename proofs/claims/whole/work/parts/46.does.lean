/-! the model: parts of a text -/
def nz (v : Int) : Int := if v = 0 then -6 else v
theorem sinR_eq {B : AB} {p k : Int} (h : aH B p + k ≤ 40) : sinR B p k = setH B p (aH B p + k) := if_neg (by omega)
theorem sinZ_eq {B : AB} {p k : Int} (h : aH B p + k ≤ 40) : sinZ B p k = 0 := if_neg (by omega)
theorem sinR_nq {B : AB} {p k : Int} (h : 40 < aH B p + k) : sinR B p k = B := if_pos h
theorem sinZ_no {B : AB} {p k : Int} (h : 40 < aH B p + k) : sinZ B p k = 1 := if_pos h
theorem pray_cases (B : AB) (p k : Int) : (prayZ B p k = 2 ∧ aH B p < k ∧ prayR B p k = B) ∨ (prayZ B p k = 5 ∧ ¬ aH B p < k ∧ 99 < aB B p + k ∧ prayR B p k = B) ∨ (prayZ B p k = 0 ∧ ¬ aH B p < k ∧ ¬ 99 < aB B p + k ∧ prayR B p k = setB (setH B p (aH B p - k)) p (aB B p + k)) := by
  unfold prayZ prayR
  by_cases h1 : aH B p < k
  · rw [if_pos h1, if_pos h1]; exact Or.inl ⟨rfl, h1, rfl⟩
  · rw [if_neg h1, if_neg h1]
    by_cases h2 : 99 < aB B p + k
    · rw [if_pos h2, if_pos h2]; exact Or.inr (Or.inl ⟨rfl, h1, h2, rfl⟩)
    · rw [if_neg h2, if_neg h2]; exact Or.inr (Or.inr ⟨rfl, h1, h2, rfl⟩)
theorem weave_cases (B : AB) (p r : Int) : (weaveZ B p r = 3 ∧ aB B p = 0 ∧ weaveR B p r = B) ∨ (weaveZ B p r = 4 ∧ ¬ aB B p = 0 ∧ 8 ≤ (aR B r).length ∧ weaveR B p r = B) ∨ (weaveZ B p r = 0 ∧ ¬ aB B p = 0 ∧ ¬ 8 ≤ (aR B r).length ∧ weaveR B p r = setB (setR B r (aR B r ++ [(p, aB B p, aWk B)])) p 0) := by
  unfold weaveZ weaveR
  by_cases h1 : aB B p = 0
  · rw [if_pos h1, if_pos h1]; exact Or.inl ⟨rfl, h1, rfl⟩
  · rw [if_neg h1, if_neg h1]
    by_cases h2 : 8 ≤ (aR B r).length
    · rw [if_pos h2, if_pos h2]; exact Or.inr (Or.inl ⟨rfl, h1, h2, rfl⟩)
    · rw [if_neg h2, if_neg h2]; exact Or.inr (Or.inr ⟨rfl, h1, h2, rfl⟩)
set_option maxRecDepth 20000 in
theorem c_X9_whyNoMore {σ : ab_S} {m : Int} (hm : kd_ m 9 37) {B : AB} (hM : MT σ m B) (hW : WA B) {p : Int} (hp1 : 0 ≤ p) (hp2 : p < 6) {k : Int} (hk1 : 0 ≤ k) (hk2 : k ≤ 9) : C2 YX9_whyNoMore 0 σ [rf m, iv p, iv k] (PI fun σ' z => σ' = σ ∧ z = nz (prayZ B p k)) := by
  obtain ⟨k1, k2, k3, k4, k5, k6, k7, k8, k9, k10, k11, k12, k13, k14, k15, k16, k17, k18, k19, k20, k21, k22, k23, k24, k25, k26⟩ := kd_model hm
  have hh := hW.1 p hp1 hp2
  have hb := hW.2.2.1 p hp1 hp2
  have hpc := pray_cases B p k
  refine C2.of (by decide +kernel) (Nat.le_of_ble_eq_true rfl) ?_
  refine r_aload_n (Y := YX9_whyNoMore) dX9_whyNoMore_0 rfl ?_
  refine r_getR (Y := YX9_whyNoMore) (δz := 13) fl_X9_46 dX9_whyNoMore_1 rfl rfl ?_
  refine r_iload_n (Y := YX9_whyNoMore) dX9_whyNoMore_4 rfl ?_
  refine r_iaV (Y := YX9_whyNoMore) (v := aH B p) dX9_whyNoMore_5 (hM.1 p hp1 hp2) ?_
  refine r_iload_n (Y := YX9_whyNoMore) dX9_whyNoMore_6 rfl ?_
  refine r_icmp_ge (Y := YX9_whyNoMore) (tgt := 14) dX9_whyNoMore_7 (by decide) (fun c7 => ?_) (fun c7 => ?_) 
  · refine r_aload_n (Y := YX9_whyNoMore) dX9_whyNoMore_14 rfl ?_
    refine r_getR (Y := YX9_whyNoMore) (δz := 14) fl_X9_49 dX9_whyNoMore_15 rfl rfl ?_
    refine r_iload_n (Y := YX9_whyNoMore) dX9_whyNoMore_18 rfl ?_
    refine r_iaV (Y := YX9_whyNoMore) (v := aB B p) dX9_whyNoMore_19 (hM.2.2.1 p hp1 hp2) ?_
    refine r_iload_n (Y := YX9_whyNoMore) dX9_whyNoMore_20 rfl ?_
    refine r_iadd (Y := YX9_whyNoMore) dX9_whyNoMore_21 ?_
    refine r_bipush (Y := YX9_whyNoMore) dX9_whyNoMore_22 ?_
    refine r_icmp_le (Y := YX9_whyNoMore) (tgt := 31) dX9_whyNoMore_24 (by decide) (fun c24 => ?_) (fun c24 => ?_) 
    · refine r_bipush (Y := YX9_whyNoMore) dX9_whyNoMore_31 ?_
      refine r_ireturn (Y := YX9_whyNoMore) dX9_whyNoMore_33 ?_
      refine ⟨rfl, ?_⟩
      unfold nz
      rcases hpc with q | q | q <;> first | (exfalso; omega) | (rw [q.1]; rfl)
    · refine r_iconst (Y := YX9_whyNoMore) dX9_whyNoMore_27 ?_
      refine r_goto (Y := YX9_whyNoMore) (tgt := 33) dX9_whyNoMore_28 (by decide) ?_
      refine r_ireturn (Y := YX9_whyNoMore) dX9_whyNoMore_33 ?_
      refine ⟨rfl, ?_⟩
      unfold nz
      rcases hpc with q | q | q <;> first | (exfalso; omega) | (rw [q.1]; rfl)
  · refine r_iconst (Y := YX9_whyNoMore) dX9_whyNoMore_10 ?_
    refine r_goto (Y := YX9_whyNoMore) (tgt := 33) dX9_whyNoMore_11 (by decide) ?_
    refine r_ireturn (Y := YX9_whyNoMore) dX9_whyNoMore_33 ?_
    refine ⟨rfl, ?_⟩
    unfold nz
    rcases hpc with q | q | q <;> first | (exfalso; omega) | (rw [q.1]; rfl)
set_option maxRecDepth 20000 in
theorem c_X9_whyNoLock {σ : ab_S} {m : Int} (hm : kd_ m 9 37) {B : AB} (hM : MT σ m B) (hW : WA B) {p : Int} (hp1 : 0 ≤ p) (hp2 : p < 6) {r : Int} (hr1 : 0 ≤ r) (hr2 : r < 4) : C2 YX9_whyNoLock 0 σ [rf m, iv p, iv r] (PI fun σ' z => σ' = σ ∧ z = nz (weaveZ B p r)) := by
  obtain ⟨k1, k2, k3, k4, k5, k6, k7, k8, k9, k10, k11, k12, k13, k14, k15, k16, k17, k18, k19, k20, k21, k22, k23, k24, k25, k26⟩ := kd_model hm
  have hb := hW.2.2.1 p hp1 hp2
  have hl8 := (hW.2.2.2.1 r hr1 hr2).1
  have hpc := weave_cases B p r
  refine C2.of (by decide +kernel) (Nat.le_of_ble_eq_true rfl) ?_
  refine r_aload_n (Y := YX9_whyNoLock) dX9_whyNoLock_0 rfl ?_
  refine r_getR (Y := YX9_whyNoLock) (δz := 14) fl_X9_49 dX9_whyNoLock_1 rfl rfl ?_
  refine r_iload_n (Y := YX9_whyNoLock) dX9_whyNoLock_4 rfl ?_
  refine r_iaV (Y := YX9_whyNoLock) (v := aB B p) dX9_whyNoLock_5 (hM.2.2.1 p hp1 hp2) ?_
  refine r_if_ne (Y := YX9_whyNoLock) (tgt := 13) dX9_whyNoLock_6 (by decide) (fun c6 => ?_) (fun c6 => ?_) 
  · refine r_aload_n (Y := YX9_whyNoLock) dX9_whyNoLock_13 rfl ?_
    refine r_getR (Y := YX9_whyNoLock) (δz := 19) fl_X9_64 dX9_whyNoLock_14 rfl rfl ?_
    refine r_iload_n (Y := YX9_whyNoLock) dX9_whyNoLock_17 rfl ?_
    refine r_iaV (Y := YX9_whyNoLock) (v := ((aR B r).length : Int)) dX9_whyNoLock_18 ((hM.2.2.2.2.1 r hr1 hr2).1) ?_
    refine r_bipush (Y := YX9_whyNoLock) dX9_whyNoLock_19 ?_
    refine r_icmp_ne (Y := YX9_whyNoLock) (tgt := 28) dX9_whyNoLock_21 (by decide) (fun c21 => ?_) (fun c21 => ?_) 
    · refine r_bipush (Y := YX9_whyNoLock) dX9_whyNoLock_28 ?_
      refine r_ireturn (Y := YX9_whyNoLock) dX9_whyNoLock_30 ?_
      refine ⟨rfl, ?_⟩
      unfold nz
      rcases hpc with q | q | q <;> first | (exfalso; omega) | (rw [q.1]; rfl)
    · refine r_iconst (Y := YX9_whyNoLock) dX9_whyNoLock_24 ?_
      refine r_goto (Y := YX9_whyNoLock) (tgt := 30) dX9_whyNoLock_25 (by decide) ?_
      refine r_ireturn (Y := YX9_whyNoLock) dX9_whyNoLock_30 ?_
      refine ⟨rfl, ?_⟩
      unfold nz
      rcases hpc with q | q | q <;> first | (exfalso; omega) | (rw [q.1]; rfl)
  · refine r_iconst (Y := YX9_whyNoLock) dX9_whyNoLock_9 ?_
    refine r_goto (Y := YX9_whyNoLock) (tgt := 30) dX9_whyNoLock_10 (by decide) ?_
    refine r_ireturn (Y := YX9_whyNoLock) dX9_whyNoLock_30 ?_
    refine ⟨rfl, ?_⟩
    unfold nz
    rcases hpc with q | q | q <;> first | (exfalso; omega) | (rw [q.1]; rfl)
set_option maxRecDepth 20000 in
theorem c_X9_does_week {σ : ab_S} {m : Int} (hm : kd_ m 9 37) {B : AB} (hM : MT σ m B) (hW : WA B) {xs : List Int} (hP : HP σ m xs) (hD : WD xs) {i : Nat} {c : Int} (hc : xs[i]? = some c) (h46 : c = 46) : C2 YX9_does 3 σ [rf m, iv i] (PI fun σ' z => z = -6 ∧ MT σ' m (weekA B) ∧ FM σ σ' m) := by
  obtain ⟨k1, k2, k3, k4, k5, k6, k7, k8, k9, k10, k11, k12, k13, k14, k15, k16, k17, k18, k19, k20, k21, k22, k23, k24, k25, k26⟩ := kd_model hm
  have hi0 := (List.getElem?_eq_some_iff.mp hc).1
  have hL := hD.1
  have hv0 := hP.2 i c hc
  refine C2.of (by decide +kernel) (Nat.le_of_ble_eq_true rfl) ?_
  refine r_aload_n (Y := YX9_does) dX9_does_0 rfl ?_
  refine r_getR (Y := YX9_does) (δz := 20) fl_X9_67 dX9_does_1 rfl rfl ?_
  refine r_iload_n (Y := YX9_does) dX9_does_4 rfl ?_
  refine r_iaV (Y := YX9_does) (v := c) dX9_does_5 (hv0) ?_
  refine r_bipush (Y := YX9_does) dX9_does_6 ?_
  refine r_icmp_ne (Y := YX9_does) (tgt := 18) dX9_does_8 (by decide) (fun c8 => absurd c8 (by omega)) (fun c8 => ?_) 
  refine r_aload_n (Y := YX9_does) dX9_does_11 rfl ?_
  refine r_iV0V (Y := YX9_does) mv_X9_145 dX9_does_12 (c_X9_goWeek hm hM hW) (by assumption) (fun σ12 h12 => ?_)
  obtain ⟨b1, b2⟩ := h12
  refine r_bipush (Y := YX9_does) dX9_does_15 ?_
  refine r_ireturn (Y := YX9_does) dX9_does_17 ?_
  exact ⟨rfl, b1, b2⟩
set_option maxRecDepth 20000 in
theorem c_X9_does_sin {σ : ab_S} {m : Int} (hm : kd_ m 9 37) {B : AB} (hM : MT σ m B) (hW : WA B) {xs : List Int} (hP : HP σ m xs) (hD : WD xs) {i : Nat} {c : Int} (hc : xs[i]? = some c) (hc1 : 65 ≤ c) (hc2 : c ≤ 70) {d : Int} (hd : xs[i + 1]? = some d) {s : Int} (hs : xs[i + 2]? = some s) (hs1 : 49 ≤ s) (hs2 : s ≤ 57) (h43 : d = 43) : C2 YX9_does 3 σ [rf m, iv i] (PI fun σ' z => z = nz (sinZ B (c - 65) (s - 48)) ∧ MT σ' m (sinR B (c - 65) (s - 48)) ∧ FM σ σ' m) := by
  obtain ⟨k1, k2, k3, k4, k5, k6, k7, k8, k9, k10, k11, k12, k13, k14, k15, k16, k17, k18, k19, k20, k21, k22, k23, k24, k25, k26⟩ := kd_model hm
  have hi0 := (List.getElem?_eq_some_iff.mp hc).1
  have hL := hD.1
  have hv0 := hP.2 i c hc
  have hi1 := (List.getElem?_eq_some_iff.mp hd).1
  have hv1 := hP.2 (i + 1) d hd
  rw [show ((i + 1 : Nat) : Int) = (i : Int) + 1 by omega] at hv1
  have hi2 := (List.getElem?_eq_some_iff.mp hs).1
  have hv2 := hP.2 (i + 2) s hs
  rw [show ((i + 2 : Nat) : Int) = (i : Int) + 2 by omega] at hv2
  have hh := hW.1 (c - 65) (by omega) (by omega)
  have hb := hW.2.2.1 (c - 65) (by omega) (by omega)
  refine C2.of (by decide +kernel) (Nat.le_of_ble_eq_true rfl) ?_
  refine r_aload_n (Y := YX9_does) dX9_does_0 rfl ?_
  refine r_getR (Y := YX9_does) (δz := 20) fl_X9_67 dX9_does_1 rfl rfl ?_
  refine r_iload_n (Y := YX9_does) dX9_does_4 rfl ?_
  refine r_iaV (Y := YX9_does) (v := c) dX9_does_5 (hv0) ?_
  refine r_bipush (Y := YX9_does) dX9_does_6 ?_
  refine r_icmp_ne (Y := YX9_does) (tgt := 18) dX9_does_8 (by decide) (fun c8 => ?_) (fun c8 => absurd c8 (by omega)) 
  refine r_aload_n (Y := YX9_does) dX9_does_18 rfl ?_
  refine r_getR (Y := YX9_does) (δz := 20) fl_X9_67 dX9_does_19 rfl rfl ?_
  refine r_iload_n (Y := YX9_does) dX9_does_22 rfl ?_
  refine r_iaV (Y := YX9_does) (v := c) dX9_does_23 (hv0) ?_
  refine r_bipush (Y := YX9_does) dX9_does_24 ?_
  refine r_isub (Y := YX9_does) dX9_does_26 ?_
  refine r_istore_n (Y := YX9_does) dX9_does_27 ?_
  refine r_aload_n (Y := YX9_does) dX9_does_28 rfl ?_
  refine r_getR (Y := YX9_does) (δz := 20) fl_X9_67 dX9_does_29 rfl rfl ?_
  refine r_iload_n (Y := YX9_does) dX9_does_32 rfl ?_
  refine r_iconst (Y := YX9_does) dX9_does_33 ?_
  refine r_iadd (Y := YX9_does) dX9_does_34 ?_
  refine r_iaV (Y := YX9_does) (v := d) dX9_does_35 (hv1) ?_
  refine r_bipush (Y := YX9_does) dX9_does_36 ?_
  refine r_icmp_ne (Y := YX9_does) (tgt := 78) dX9_does_38 (by decide) (fun c38 => absurd c38 (by omega)) (fun c38 => ?_) 
  refine r_aload_n (Y := YX9_does) dX9_does_41 rfl ?_
  refine r_getR (Y := YX9_does) (δz := 13) fl_X9_46 dX9_does_42 rfl rfl ?_
  refine r_iload_n (Y := YX9_does) dX9_does_45 rfl ?_
  refine r_iaV (Y := YX9_does) (v := aH B (c - 65)) dX9_does_46 (hM.1 (c - 65) (by omega) (by omega)) ?_
  refine r_aload_n (Y := YX9_does) dX9_does_47 rfl ?_
  refine r_getR (Y := YX9_does) (δz := 20) fl_X9_67 dX9_does_48 rfl rfl ?_
  refine r_iload_n (Y := YX9_does) dX9_does_51 rfl ?_
  refine r_iconst (Y := YX9_does) dX9_does_52 ?_
  refine r_iadd (Y := YX9_does) dX9_does_53 ?_
  refine r_iaV (Y := YX9_does) (v := s) dX9_does_54 (hv2) ?_
  refine r_iadd (Y := YX9_does) dX9_does_55 ?_
  refine r_bipush (Y := YX9_does) dX9_does_56 ?_
  refine r_isub (Y := YX9_does) dX9_does_58 ?_
  refine r_istore_n (Y := YX9_does) dX9_does_59 ?_
  refine r_iload_n (Y := YX9_does) dX9_does_60 rfl ?_
  refine r_bipush (Y := YX9_does) dX9_does_61 ?_
  refine r_icmp_le (Y := YX9_does) (tgt := 68) dX9_does_63 (by decide) (fun c63 => ?_) (fun c63 => ?_) 
  · refine r_aload_n (Y := YX9_does) dX9_does_68 rfl ?_
    refine r_getR (Y := YX9_does) (δz := 13) fl_X9_46 dX9_does_69 rfl rfl ?_
    refine r_iload_n (Y := YX9_does) dX9_does_72 rfl ?_
    refine r_iload_n (Y := YX9_does) dX9_does_73 rfl ?_
    refine r_iastore (Y := YX9_does) dX9_does_74 ?_
    refine r_bipush (Y := YX9_does) dX9_does_75 ?_
    refine r_ireturn (Y := YX9_does) dX9_does_77 ?_
    rw [sinZ_eq (by omega), sinR_eq (by omega)]
    exact ⟨rfl, hM.hair ((up_same _ _ _ _).trans (by omega)) (fun k i a b => by (try delta up); (try delta cpy); (try dsimp only); repeat (first | rw [if_pos (by omega)] | rw [if_neg (by omega)]); try (first | rfl | assumption | omega)), fun k i a b => by (try delta up); (try delta cpy); (try dsimp only); repeat (first | rw [if_pos (by omega)] | rw [if_neg (by omega)]); try (first | rfl | assumption | omega)⟩
  · refine r_iconst (Y := YX9_does) dX9_does_66 ?_
    refine r_ireturn (Y := YX9_does) dX9_does_67 ?_
    rw [sinZ_no (by omega), sinR_nq (by omega)]
    exact ⟨rfl, hM, FM.rf⟩
set_option maxRecDepth 20000 in
theorem c_X9_does_pray {σ : ab_S} {m : Int} (hm : kd_ m 9 37) {B : AB} (hM : MT σ m B) (hW : WA B) {xs : List Int} (hP : HP σ m xs) (hD : WD xs) {i : Nat} {c : Int} (hc : xs[i]? = some c) (hc1 : 65 ≤ c) (hc2 : c ≤ 70) {d : Int} (hd : xs[i + 1]? = some d) {s : Int} (hs : xs[i + 2]? = some s) (hs1 : 49 ≤ s) (hs2 : s ≤ 57) (h45 : d = 45) : C2 YX9_does 3 σ [rf m, iv i] (PI fun σ' z => z = nz (prayZ B (c - 65) (s - 48)) ∧ MT σ' m (prayR B (c - 65) (s - 48)) ∧ FM σ σ' m) := by
  obtain ⟨k1, k2, k3, k4, k5, k6, k7, k8, k9, k10, k11, k12, k13, k14, k15, k16, k17, k18, k19, k20, k21, k22, k23, k24, k25, k26⟩ := kd_model hm
  have hi0 := (List.getElem?_eq_some_iff.mp hc).1
  have hL := hD.1
  have hv0 := hP.2 i c hc
  have hi1 := (List.getElem?_eq_some_iff.mp hd).1
  have hv1 := hP.2 (i + 1) d hd
  rw [show ((i + 1 : Nat) : Int) = (i : Int) + 1 by omega] at hv1
  have hi2 := (List.getElem?_eq_some_iff.mp hs).1
  have hv2 := hP.2 (i + 2) s hs
  rw [show ((i + 2 : Nat) : Int) = (i : Int) + 2 by omega] at hv2
  have hh := hW.1 (c - 65) (by omega) (by omega)
  have hb := hW.2.2.1 (c - 65) (by omega) (by omega)
  have hpc := pray_cases B (c - 65) (s - 48)
  have hnz : nz (prayZ B (c - 65) (s - 48)) = -6 ↔ prayZ B (c - 65) (s - 48) = 0 := by unfold nz; rcases hpc with q | q | q <;> (rw [q.1]; decide)
  have hnb : -6 ≤ nz (prayZ B (c - 65) (s - 48)) ∧ nz (prayZ B (c - 65) (s - 48)) ≤ 5 := by unfold nz; rcases hpc with q | q | q <;> (rw [q.1]; decide)
  refine C2.of (by decide +kernel) (Nat.le_of_ble_eq_true rfl) ?_
  refine r_aload_n (Y := YX9_does) dX9_does_0 rfl ?_
  refine r_getR (Y := YX9_does) (δz := 20) fl_X9_67 dX9_does_1 rfl rfl ?_
  refine r_iload_n (Y := YX9_does) dX9_does_4 rfl ?_
  refine r_iaV (Y := YX9_does) (v := c) dX9_does_5 (hv0) ?_
  refine r_bipush (Y := YX9_does) dX9_does_6 ?_
  refine r_icmp_ne (Y := YX9_does) (tgt := 18) dX9_does_8 (by decide) (fun c8 => ?_) (fun c8 => absurd c8 (by omega)) 
  refine r_aload_n (Y := YX9_does) dX9_does_18 rfl ?_
  refine r_getR (Y := YX9_does) (δz := 20) fl_X9_67 dX9_does_19 rfl rfl ?_
  refine r_iload_n (Y := YX9_does) dX9_does_22 rfl ?_
  refine r_iaV (Y := YX9_does) (v := c) dX9_does_23 (hv0) ?_
  refine r_bipush (Y := YX9_does) dX9_does_24 ?_
  refine r_isub (Y := YX9_does) dX9_does_26 ?_
  refine r_istore_n (Y := YX9_does) dX9_does_27 ?_
  refine r_aload_n (Y := YX9_does) dX9_does_28 rfl ?_
  refine r_getR (Y := YX9_does) (δz := 20) fl_X9_67 dX9_does_29 rfl rfl ?_
  refine r_iload_n (Y := YX9_does) dX9_does_32 rfl ?_
  refine r_iconst (Y := YX9_does) dX9_does_33 ?_
  refine r_iadd (Y := YX9_does) dX9_does_34 ?_
  refine r_iaV (Y := YX9_does) (v := d) dX9_does_35 (hv1) ?_
  refine r_bipush (Y := YX9_does) dX9_does_36 ?_
  refine r_icmp_ne (Y := YX9_does) (tgt := 78) dX9_does_38 (by decide) (fun c38 => ?_) (fun c38 => absurd c38 (by omega)) 
  refine r_aload_n (Y := YX9_does) dX9_does_78 rfl ?_
  refine r_getR (Y := YX9_does) (δz := 20) fl_X9_67 dX9_does_79 rfl rfl ?_
  refine r_iload_n (Y := YX9_does) dX9_does_82 rfl ?_
  refine r_iconst (Y := YX9_does) dX9_does_83 ?_
  refine r_iadd (Y := YX9_does) dX9_does_84 ?_
  refine r_iaV (Y := YX9_does) (v := d) dX9_does_85 (hv1) ?_
  refine r_bipush (Y := YX9_does) dX9_does_86 ?_
  refine r_icmp_ne (Y := YX9_does) (tgt := 141) dX9_does_88 (by decide) (fun c88 => absurd c88 (by omega)) (fun c88 => ?_) 
  refine r_aload_n (Y := YX9_does) dX9_does_91 rfl ?_
  refine r_getR (Y := YX9_does) (δz := 20) fl_X9_67 dX9_does_92 rfl rfl ?_
  refine r_iload_n (Y := YX9_does) dX9_does_95 rfl ?_
  refine r_iconst (Y := YX9_does) dX9_does_96 ?_
  refine r_iadd (Y := YX9_does) dX9_does_97 ?_
  refine r_iaV (Y := YX9_does) (v := s) dX9_does_98 (hv2) ?_
  refine r_bipush (Y := YX9_does) dX9_does_99 ?_
  refine r_isub (Y := YX9_does) dX9_does_101 ?_
  refine r_istore_n (Y := YX9_does) dX9_does_102 ?_
  refine r_aload_n (Y := YX9_does) dX9_does_103 rfl ?_
  refine r_iload_n (Y := YX9_does) dX9_does_104 rfl ?_
  refine r_iload_n (Y := YX9_does) dX9_does_105 rfl ?_
  refine r_iV2I (Y := YX9_does) mv_X9_148 dX9_does_106 (c_X9_whyNoMore hm hM hW (by omega) (by omega) (by omega) (by omega)) (by assumption) (fun σ106 z106 h106 => ?_)
  obtain ⟨rfl, rfl⟩ := h106
  refine r_istore (Y := YX9_does) dX9_does_109 ?_
  refine r_iload (Y := YX9_does) dX9_does_111 rfl ?_
  refine r_bipush (Y := YX9_does) dX9_does_113 ?_
  refine r_icmp_ne (Y := YX9_does) (tgt := 138) dX9_does_115 (by decide) (fun c115 => ?_) (fun c115 => ?_) 
  · refine r_iload (Y := YX9_does) dX9_does_138 rfl ?_
    refine r_ireturn (Y := YX9_does) dX9_does_140 ?_
    rcases hpc with q | q | q
    · first | (exfalso; omega) | (rw [q.2.2]; exact ⟨rfl, hM, FM.rf⟩)
    · first | (exfalso; omega) | (rw [q.2.2.2]; exact ⟨rfl, hM, FM.rf⟩)
    · first | (exfalso; omega) | (rw [q.2.2.2]; exact ⟨rfl, (hM.hair (up_same _ _ _ _) (fun k i a b => by (try delta up); (try delta cpy); (try dsimp only); repeat (first | rw [if_pos (by omega)] | rw [if_neg (by omega)]); try (first | rfl | assumption | omega))).bask (up_same _ _ _ _) (fun k i a b => by (try delta up); (try delta cpy); (try dsimp only); repeat (first | rw [if_pos (by omega)] | rw [if_neg (by omega)]); try (first | rfl | assumption | omega)), fun k i a b => by (try delta up); (try delta cpy); (try dsimp only); repeat (first | rw [if_pos (by omega)] | rw [if_neg (by omega)]); try (first | rfl | assumption | omega)⟩)
  · refine r_aload_n (Y := YX9_does) dX9_does_118 rfl ?_
    refine r_getR (Y := YX9_does) (δz := 13) fl_X9_46 dX9_does_119 rfl rfl ?_
    refine r_iload_n (Y := YX9_does) dX9_does_122 rfl ?_
    refine r_dup2 (Y := YX9_does) dX9_does_123 ?_
    refine r_iaV (Y := YX9_does) (v := aH B (c - 65)) dX9_does_124 (hM.1 (c - 65) (by omega) (by omega)) ?_
    refine r_iload_n (Y := YX9_does) dX9_does_125 rfl ?_
    refine r_isub (Y := YX9_does) dX9_does_126 ?_
    refine r_iastore (Y := YX9_does) dX9_does_127 ?_
    refine r_aload_n (Y := YX9_does) dX9_does_128 rfl ?_
    refine r_getR (Y := YX9_does) (δz := 14) fl_X9_49 dX9_does_129 rfl rfl ?_
    refine r_iload_n (Y := YX9_does) dX9_does_132 rfl ?_
    refine r_dup2 (Y := YX9_does) dX9_does_133 ?_
    refine r_iaV (Y := YX9_does) (v := aB B (c - 65)) dX9_does_134 ((by rw [← hM.2.2.1 (c - 65) (by omega) (by omega)]; exact (by (try delta up); (try delta cpy); (try dsimp only); repeat (first | rw [if_pos (by omega)] | rw [if_neg (by omega)]); try (first | rfl | assumption | omega)))) ?_
    refine r_iload_n (Y := YX9_does) dX9_does_135 rfl ?_
    refine r_iadd (Y := YX9_does) dX9_does_136 ?_
    refine r_iastore (Y := YX9_does) dX9_does_137 ?_
    refine r_iload (Y := YX9_does) dX9_does_138 rfl ?_
    refine r_ireturn (Y := YX9_does) dX9_does_140 ?_
    rcases hpc with q | q | q
    · first | (exfalso; omega) | (rw [q.2.2]; exact ⟨rfl, hM, FM.rf⟩)
    · first | (exfalso; omega) | (rw [q.2.2.2]; exact ⟨rfl, hM, FM.rf⟩)
    · first | (exfalso; omega) | (rw [q.2.2.2]; exact ⟨rfl, (hM.hair (up_same _ _ _ _) (fun k i a b => by (try delta up); (try delta cpy); (try dsimp only); repeat (first | rw [if_pos (by omega)] | rw [if_neg (by omega)]); try (first | rfl | assumption | omega))).bask (up_same _ _ _ _) (fun k i a b => by (try delta up); (try delta cpy); (try dsimp only); repeat (first | rw [if_pos (by omega)] | rw [if_neg (by omega)]); try (first | rfl | assumption | omega)), fun k i a b => by (try delta up); (try delta cpy); (try dsimp only); repeat (first | rw [if_pos (by omega)] | rw [if_neg (by omega)]); try (first | rfl | assumption | omega)⟩)
set_option maxRecDepth 20000 in
theorem c_X9_does_weave {σ : ab_S} {m : Int} (hm : kd_ m 9 37) {B : AB} (hM : MT σ m B) (hW : WA B) {xs : List Int} (hP : HP σ m xs) (hD : WD xs) {i : Nat} {c : Int} (hc : xs[i]? = some c) (hc1 : 65 ≤ c) (hc2 : c ≤ 70) {d : Int} (hd : xs[i + 1]? = some d) (hd1 : 48 ≤ d) (hd2 : d ≤ 51) : C2 YX9_does 3 σ [rf m, iv i] (PI fun σ' z => z = nz (weaveZ B (c - 65) (d - 48)) ∧ MT σ' m (weaveR B (c - 65) (d - 48)) ∧ FM σ σ' m) := by
  obtain ⟨k1, k2, k3, k4, k5, k6, k7, k8, k9, k10, k11, k12, k13, k14, k15, k16, k17, k18, k19, k20, k21, k22, k23, k24, k25, k26⟩ := kd_model hm
  have hi0 := (List.getElem?_eq_some_iff.mp hc).1
  have hL := hD.1
  have hv0 := hP.2 i c hc
  have hi1 := (List.getElem?_eq_some_iff.mp hd).1
  have hv1 := hP.2 (i + 1) d hd
  rw [show ((i + 1 : Nat) : Int) = (i : Int) + 1 by omega] at hv1
  have hpc := weave_cases B (c - 65) (d - 48)
  have hnz : nz (weaveZ B (c - 65) (d - 48)) = -6 ↔ weaveZ B (c - 65) (d - 48) = 0 := by unfold nz; rcases hpc with q | q | q <;> (rw [q.1]; decide)
  have hnb : -6 ≤ nz (weaveZ B (c - 65) (d - 48)) ∧ nz (weaveZ B (c - 65) (d - 48)) ≤ 5 := by unfold nz; rcases hpc with q | q | q <;> (rw [q.1]; decide)
  refine C2.of (by decide +kernel) (Nat.le_of_ble_eq_true rfl) ?_
  refine r_aload_n (Y := YX9_does) dX9_does_0 rfl ?_
  refine r_getR (Y := YX9_does) (δz := 20) fl_X9_67 dX9_does_1 rfl rfl ?_
  refine r_iload_n (Y := YX9_does) dX9_does_4 rfl ?_
  refine r_iaV (Y := YX9_does) (v := c) dX9_does_5 (hv0) ?_
  refine r_bipush (Y := YX9_does) dX9_does_6 ?_
  refine r_icmp_ne (Y := YX9_does) (tgt := 18) dX9_does_8 (by decide) (fun c8 => ?_) (fun c8 => absurd c8 (by omega)) 
  refine r_aload_n (Y := YX9_does) dX9_does_18 rfl ?_
  refine r_getR (Y := YX9_does) (δz := 20) fl_X9_67 dX9_does_19 rfl rfl ?_
  refine r_iload_n (Y := YX9_does) dX9_does_22 rfl ?_
  refine r_iaV (Y := YX9_does) (v := c) dX9_does_23 (hv0) ?_
  refine r_bipush (Y := YX9_does) dX9_does_24 ?_
  refine r_isub (Y := YX9_does) dX9_does_26 ?_
  refine r_istore_n (Y := YX9_does) dX9_does_27 ?_
  refine r_aload_n (Y := YX9_does) dX9_does_28 rfl ?_
  refine r_getR (Y := YX9_does) (δz := 20) fl_X9_67 dX9_does_29 rfl rfl ?_
  refine r_iload_n (Y := YX9_does) dX9_does_32 rfl ?_
  refine r_iconst (Y := YX9_does) dX9_does_33 ?_
  refine r_iadd (Y := YX9_does) dX9_does_34 ?_
  refine r_iaV (Y := YX9_does) (v := d) dX9_does_35 (hv1) ?_
  refine r_bipush (Y := YX9_does) dX9_does_36 ?_
  refine r_icmp_ne (Y := YX9_does) (tgt := 78) dX9_does_38 (by decide) (fun c38 => ?_) (fun c38 => absurd c38 (by omega)) 
  refine r_aload_n (Y := YX9_does) dX9_does_78 rfl ?_
  refine r_getR (Y := YX9_does) (δz := 20) fl_X9_67 dX9_does_79 rfl rfl ?_
  refine r_iload_n (Y := YX9_does) dX9_does_82 rfl ?_
  refine r_iconst (Y := YX9_does) dX9_does_83 ?_
  refine r_iadd (Y := YX9_does) dX9_does_84 ?_
  refine r_iaV (Y := YX9_does) (v := d) dX9_does_85 (hv1) ?_
  refine r_bipush (Y := YX9_does) dX9_does_86 ?_
  refine r_icmp_ne (Y := YX9_does) (tgt := 141) dX9_does_88 (by decide) (fun c88 => ?_) (fun c88 => absurd c88 (by omega)) 
  refine r_aload_n (Y := YX9_does) dX9_does_141 rfl ?_
  refine r_getR (Y := YX9_does) (δz := 20) fl_X9_67 dX9_does_142 rfl rfl ?_
  refine r_iload_n (Y := YX9_does) dX9_does_145 rfl ?_
  refine r_iconst (Y := YX9_does) dX9_does_146 ?_
  refine r_iadd (Y := YX9_does) dX9_does_147 ?_
  refine r_iaV (Y := YX9_does) (v := d) dX9_does_148 (hv1) ?_
  refine r_bipush (Y := YX9_does) dX9_does_149 ?_
  refine r_isub (Y := YX9_does) dX9_does_151 ?_
  refine r_istore_n (Y := YX9_does) dX9_does_152 ?_
  refine r_aload_n (Y := YX9_does) dX9_does_153 rfl ?_
  refine r_iload_n (Y := YX9_does) dX9_does_154 rfl ?_
  refine r_iload_n (Y := YX9_does) dX9_does_155 rfl ?_
  refine r_iV2I (Y := YX9_does) mv_X9_152 dX9_does_156 (c_X9_whyNoLock hm hM hW (by omega) (by omega) (by omega) (by omega)) (by assumption) (fun σ156 z156 h156 => ?_)
  obtain ⟨rfl, rfl⟩ := h156
  refine r_istore (Y := YX9_does) dX9_does_159 ?_
  refine r_iload (Y := YX9_does) dX9_does_161 rfl ?_
  refine r_bipush (Y := YX9_does) dX9_does_163 ?_
  refine r_icmp_ne (Y := YX9_does) (tgt := 174) dX9_does_165 (by decide) (fun c165 => ?_) (fun c165 => ?_) 
  · refine r_iload (Y := YX9_does) dX9_does_174 rfl ?_
    refine r_ireturn (Y := YX9_does) dX9_does_176 ?_
    first
      | exact ⟨rfl, b1, b2⟩
      | (rcases hpc with q | q | q
         · first | (exfalso; omega) | (rw [q.2.2]; exact ⟨rfl, hM, FM.rf⟩)
         · first | (exfalso; omega) | (rw [q.2.2.2]; exact ⟨rfl, hM, FM.rf⟩)
         · exfalso; omega)
  · refine r_aload_n (Y := YX9_does) dX9_does_168 rfl ?_
    refine r_iload_n (Y := YX9_does) dX9_does_169 rfl ?_
    refine r_iload_n (Y := YX9_does) dX9_does_170 rfl ?_
    have hq : (aR B (d - 48)).length < 8 ∧ weaveR B (c - 65) (d - 48) = setB (setR B (d - 48) (aR B (d - 48) ++ [(c - 65, aB B (c - 65), aWk B)])) (c - 65) 0 := by rcases hpc with q | q | q; (exfalso; omega); (exfalso; omega); exact ⟨by omega, q.2.2.2⟩
    refine r_iV2V (Y := YX9_does) mv_X9_155 dX9_does_171 (c_X9_weave hm hM hW (by omega) (by omega) (by omega) (by omega) hq.1) (by assumption) (fun σ171 h171 => ?_)
    obtain ⟨b1, b2⟩ := h171
    rw [← hq.2] at b1
    refine r_iload (Y := YX9_does) dX9_does_174 rfl ?_
    refine r_ireturn (Y := YX9_does) dX9_does_176 ?_
    first
      | exact ⟨rfl, b1, b2⟩
      | (rcases hpc with q | q | q
         · first | (exfalso; omega) | (rw [q.2.2]; exact ⟨rfl, hM, FM.rf⟩)
         · first | (exfalso; omega) | (rw [q.2.2.2]; exact ⟨rfl, hM, FM.rf⟩)
         · exfalso; omega)
