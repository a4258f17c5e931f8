/-! the model whole: led, years, soon -/
set_option maxRecDepth 20000 in
theorem c_X9_inchesOf {σ : ab_S} {m : Int} (hm : kd_ m 9 37) {p : Int} (hp1 : 0 ≤ p) (hp2 : p < 6) {r : Int} {B : AB} (hr1 : 0 ≤ r) (hr2 : r < 4) (hM : MT σ m B) (hW : WA B) : C2 YX9_inchesOf 0 σ [rf m, iv p, iv r] (PI fun σ' z => σ' = σ ∧ z = lenM p (aR B r)) := by
  obtain ⟨k1, k2, k3, k4, k5, k6, k7, k8, k9, k10, k11, k12, k13, k14, k15, k16, k17, k18, k19, k20, k21, k22, k23, k24, k25, k26⟩ := kd_model hm
  have hR := hM.2.2.2.2.1 r hr1 hr2
  have hWL := hW.2.2.2.1 r hr1 hr2
  have hl8 := hWL.1
  refine C2.of (by decide +kernel) (Nat.le_of_ble_eq_true rfl) ?_
  refine r_iconst (Y := YX9_inchesOf) dX9_inchesOf_0 ?_
  refine r_istore_n (Y := YX9_inchesOf) dX9_inchesOf_1 ?_
  refine r_bipush (Y := YX9_inchesOf) dX9_inchesOf_2 ?_
  refine r_iload_n (Y := YX9_inchesOf) dX9_inchesOf_4 rfl ?_
  refine r_imul (Y := YX9_inchesOf) dX9_inchesOf_5 ?_
  refine r_istore (Y := YX9_inchesOf) dX9_inchesOf_6 ?_
  suffices hloop : ∀ (rest : List Lk) (j : Nat) (q : Int), (aR B r).drop j = rest → j ≤ (aR B r).length → q + lenM p rest = lenM p (aR B r) → R2 YX9_inchesOf 0 σ 8 [some (rf m), some (iv p), some (iv r), some (iv q), some (iv (8 * r + (j : Int)))] [] (PI fun σ' z => σ' = σ ∧ z = lenM p (aR B r)) from by
    have h0 := hloop (aR B r) 0 0 rfl (by omega) (by omega)
    rw [show 8 * r + ((0 : Nat) : Int) = 8 * r by omega] at h0
    exact R2.weak (by repeat first | exact trivial | refine And.intro rfl ?_) h0
  intro rest
  induction rest with
  | nil =>
    intro j q e1 e2 e3
    have e4 : (aR B r).length ≤ j := List.drop_eq_nil_iff.mp e1
    have e5 : q + 0 = lenM p (aR B r) := e3
    refine r_iload (Y := YX9_inchesOf) dX9_inchesOf_8 rfl ?_
    refine r_bipush (Y := YX9_inchesOf) dX9_inchesOf_10 ?_
    refine r_iload_n (Y := YX9_inchesOf) dX9_inchesOf_12 rfl ?_
    refine r_imul (Y := YX9_inchesOf) dX9_inchesOf_13 ?_
    refine r_aload_n (Y := YX9_inchesOf) dX9_inchesOf_14 rfl ?_
    refine r_getR (Y := YX9_inchesOf) (δz := 19) fl_X9_64 dX9_inchesOf_15 rfl rfl ?_
    refine r_iload_n (Y := YX9_inchesOf) dX9_inchesOf_18 rfl ?_
    refine r_iaV (Y := YX9_inchesOf) (v := ((aR B r).length : Int)) dX9_inchesOf_19 (hR.1) ?_
    refine r_iadd (Y := YX9_inchesOf) dX9_inchesOf_20 ?_
    refine r_icmp_ge (Y := YX9_inchesOf) (tgt := 55) dX9_inchesOf_21 (by decide) (fun c21 => ?_) (fun c21 => absurd c21 (by omega)) 
    refine r_iload_n (Y := YX9_inchesOf) dX9_inchesOf_55 rfl ?_
    refine r_ireturn (Y := YX9_inchesOf) dX9_inchesOf_56 ?_
    exact ⟨rfl, by omega⟩
  | cons l rest ih =>
    intro j q e1 e2 e3
    have e4 : j < (aR B r).length := by
      apply Decidable.byContradiction
      intro h
      rw [List.drop_eq_nil_of_le (by omega)] at e1
      cases e1
    have e5 : (aR B r)[j]? = some l := by
      have := congrArg List.head? e1
      rwa [List.head?_drop] at this
    have e6 : (aR B r).drop (j + 1) = rest := by
      have := congrArg List.tail e1
      rwa [List.tail_drop] at this
    have hl := hWL.2 l (List.mem_of_getElem? e5)
    have hl1 := hl.1
    have hl2 := hl.2.1
    have hv := hR.2 j l e5
    have e7 : q + ((if l.1 = p then l.2.1 else 0) + lenM p rest) = lenM p (aR B r) := e3
    have ih := ih (j + 1)
    rw [show 8 * r + ((j + 1 : Nat) : Int) = 8 * r + (j : Int) + 1 by omega] at ih
    refine r_iload (Y := YX9_inchesOf) dX9_inchesOf_8 rfl ?_
    refine r_bipush (Y := YX9_inchesOf) dX9_inchesOf_10 ?_
    refine r_iload_n (Y := YX9_inchesOf) dX9_inchesOf_12 rfl ?_
    refine r_imul (Y := YX9_inchesOf) dX9_inchesOf_13 ?_
    refine r_aload_n (Y := YX9_inchesOf) dX9_inchesOf_14 rfl ?_
    refine r_getR (Y := YX9_inchesOf) (δz := 19) fl_X9_64 dX9_inchesOf_15 rfl rfl ?_
    refine r_iload_n (Y := YX9_inchesOf) dX9_inchesOf_18 rfl ?_
    refine r_iaV (Y := YX9_inchesOf) (v := ((aR B r).length : Int)) dX9_inchesOf_19 (hR.1) ?_
    refine r_iadd (Y := YX9_inchesOf) dX9_inchesOf_20 ?_
    refine r_icmp_ge (Y := YX9_inchesOf) (tgt := 55) dX9_inchesOf_21 (by decide) (fun c21 => absurd c21 (by omega)) (fun c21 => ?_) 
    refine r_iload_n (Y := YX9_inchesOf) dX9_inchesOf_24 rfl ?_
    refine r_aload_n (Y := YX9_inchesOf) dX9_inchesOf_25 rfl ?_
    refine r_getR (Y := YX9_inchesOf) (δz := 16) fl_X9_55 dX9_inchesOf_26 rfl rfl ?_
    refine r_iload (Y := YX9_inchesOf) dX9_inchesOf_29 rfl ?_
    refine r_iaV (Y := YX9_inchesOf) (v := l.1) dX9_inchesOf_31 (hv.1) ?_
    refine r_iload_n (Y := YX9_inchesOf) dX9_inchesOf_32 rfl ?_
    refine r_icmp_ne (Y := YX9_inchesOf) (tgt := 46) dX9_inchesOf_33 (by decide) (fun c33 => ?_) (fun c33 => ?_) 
    · refine r_iconst (Y := YX9_inchesOf) dX9_inchesOf_46 ?_
      refine r_iadd (Y := YX9_inchesOf) dX9_inchesOf_47 ?_
      refine r_istore_n (Y := YX9_inchesOf) dX9_inchesOf_48 ?_
      refine r_iinc (Y := YX9_inchesOf) dX9_inchesOf_49 rfl ?_
      refine r_goto (Y := YX9_inchesOf) (tgt := 8) dX9_inchesOf_52 (by decide) ?_
      first
        | (rw [if_pos (by omega)] at e7; exact R2.weak (by repeat first | exact trivial | refine And.intro rfl ?_) (ih _ e6 (by omega) (by omega)))
        | (rw [if_neg (by omega)] at e7; exact R2.weak (by repeat first | exact trivial | refine And.intro rfl ?_) (ih _ e6 (by omega) (by omega)))
    · refine r_aload_n (Y := YX9_inchesOf) dX9_inchesOf_36 rfl ?_
      refine r_getR (Y := YX9_inchesOf) (δz := 17) fl_X9_58 dX9_inchesOf_37 rfl rfl ?_
      refine r_iload (Y := YX9_inchesOf) dX9_inchesOf_40 rfl ?_
      refine r_iaV (Y := YX9_inchesOf) (v := l.2.1) dX9_inchesOf_42 (hv.2.1) ?_
      refine r_goto (Y := YX9_inchesOf) (tgt := 47) dX9_inchesOf_43 (by decide) ?_
      refine r_iadd (Y := YX9_inchesOf) dX9_inchesOf_47 ?_
      refine r_istore_n (Y := YX9_inchesOf) dX9_inchesOf_48 ?_
      refine r_iinc (Y := YX9_inchesOf) dX9_inchesOf_49 rfl ?_
      refine r_goto (Y := YX9_inchesOf) (tgt := 8) dX9_inchesOf_52 (by decide) ?_
      first
        | (rw [if_pos (by omega)] at e7; exact R2.weak (by repeat first | exact trivial | refine And.intro rfl ?_) (ih _ e6 (by omega) (by omega)))
        | (rw [if_neg (by omega)] at e7; exact R2.weak (by repeat first | exact trivial | refine And.intro rfl ?_) (ih _ e6 (by omega) (by omega)))
set_option maxRecDepth 20000 in
theorem c_X9_led {σ : ab_S} {m : Int} {G : GS} (hm : kd_ m 9 37) (hM : HM σ m G) (hG : OKG G) {p : Int} (hp1 : -2147483648 ≤ p) (hp2 : p ≤ 2147483647) {w : Int} (hw1 : -2147483648 ≤ w) (hw2 : w ≤ 2147483647) : C2 YX9_led 2 σ [rf m, iv p, iv w] (PI fun σ' z => z = (ledF G p w).1 ∧ HM σ' m (ledF G p w).2 ∧ FY σ σ' m) := by
  obtain ⟨k1, k2, k3, k4, k5, k6, k7, k8, k9, k10, k11, k12, k13, k14, k15, k16, k17, k18, k19, k20, k21, k22, k23, k24, k25, k26⟩ := kd_model hm
  have hA := hM.1
  have hW := hG.1.1.1
  have hWL := hG.1.1.2
  refine C2.of (by decide +kernel) (Nat.le_of_ble_eq_true rfl) ?_
  refine r_iload_n (Y := YX9_led) dX9_led_0 rfl ?_
  refine r_iS1I (Y := YX9_led) ms_X9_118 dX9_led_1 (c_isMonk (by omega) (by omega)) (fun σ1 z1 h1 => ?_)
  obtain ⟨rfl, h1⟩ := h1
  refine r_if_ne (Y := YX9_led) (tgt := 9) dX9_led_4 (by decide) (fun c4 => ?_) (fun c4 => ?_) 
  · refine r_iload_n (Y := YX9_led) dX9_led_9 rfl ?_
    refine r_i2l (Y := YX9_led) dX9_led_10 ?_
    refine r_lconst (Y := YX9_led) (v := 0) dX9_led_11 rfl ?_
    refine r_lconst (Y := YX9_led) (v := 1) dX9_led_12 rfl ?_
    refine r_iS3I (Y := YX9_led) ms_X9_95 dX9_led_13 (c_in (by omega) (by omega) (by omega) (by omega) (by omega) (by omega)) (fun σ13 z13 h13 => ?_)
    obtain ⟨rfl, h13⟩ := h13
    refine r_if_ne (Y := YX9_led) (tgt := 22) dX9_led_16 (by decide) (fun c16 => ?_) (fun c16 => ?_) 
    · refine r_aload_n (Y := YX9_led) dX9_led_22 rfl ?_
      refine r_iV0V (Y := YX9_led) mv_X9_159 dX9_led_23 (c_layNow hm hA hW) (by assumption) (fun σ23 h23 => ?_)
      obtain ⟨t1, t2⟩ := h23
      have hM2 := hM.fm t2
      refine r_iconst (Y := YX9_led) dX9_led_26 ?_
      refine r_istore_n (Y := YX9_led) dX9_led_27 ?_
      refine r_iconst (Y := YX9_led) dX9_led_28 ?_
      refine r_istore (Y := YX9_led) dX9_led_29 ?_
      suffices hloop : ∀ (k n : Nat), n + k = 4 → R2 YX9_led 2 σ23 31 [some (rf m), some (iv p), some (iv w), some (iv (inN G.1.1 p n)), some (iv n)] [] (PI fun σ' z => z = (ledF G p w).1 ∧ HM σ' m (ledF G p w).2 ∧ FY σ13 σ' m) from
        R2.weak (by repeat first | exact trivial | refine And.intro rfl ?_) (hloop 4 0 rfl)
      intro k
      induction k with
      | zero =>
        intro n e1
        have e2 : n = 4 := by omega
        subst e2
        change R2 _ _ _ _ (_ :: _ :: _ :: some (iv (inA G.1.1 p)) :: _) _ _
        refine r_iload (Y := YX9_led) dX9_led_31 rfl ?_
        refine r_iconst (Y := YX9_led) dX9_led_33 ?_
        refine r_icmp_ge (Y := YX9_led) (tgt := 53) dX9_led_34 (by decide) (fun c34 => ?_) (fun c34 => absurd c34 (by omega)) 
        refine r_iload_n (Y := YX9_led) dX9_led_53 rfl ?_
        refine r_if_ne (Y := YX9_led) (tgt := 61) dX9_led_54 (by decide) (fun c54 => ?_) (fun c54 => ?_) 
        · refine r_aload_n (Y := YX9_led) dX9_led_61 rfl ?_
          refine r_getR (Y := YX9_led) (δz := 4) fl_X9_19 dX9_led_62 rfl rfl ?_
          refine r_iload_n (Y := YX9_led) dX9_led_65 rfl ?_
          refine r_iaV (Y := YX9_led) (v := aW G.1.1 p) dX9_led_66 ((by rw [t2 _ _ (by omega) (by omega)]; exact hA.2.2.2.1 p (by omega) (by omega))) ?_
          refine r_ireturn (Y := YX9_led) dX9_led_67 ?_
          unfold ledF
          (repeat (first | rw [if_pos (by omega)] | rw [if_neg (by omega)]))
          exact ⟨rfl, hM2, t2.fy⟩
        · refine r_iload_n (Y := YX9_led) dX9_led_57 rfl ?_
          refine r_goto (Y := YX9_led) (tgt := 67) dX9_led_58 (by decide) ?_
          refine r_ireturn (Y := YX9_led) dX9_led_67 ?_
          unfold ledF
          (repeat (first | rw [if_pos (by omega)] | rw [if_neg (by omega)]))
          exact ⟨rfl, hM2, t2.fy⟩
      | succ k ih =>
        intro n e1
        refine r_iload (Y := YX9_led) dX9_led_31 rfl ?_
        refine r_iconst (Y := YX9_led) dX9_led_33 ?_
        refine r_icmp_ge (Y := YX9_led) (tgt := 53) dX9_led_34 (by decide) (fun c34 => absurd c34 (by omega)) (fun c34 => ?_) 
        refine r_iload_n (Y := YX9_led) dX9_led_37 rfl ?_
        refine r_aload_n (Y := YX9_led) dX9_led_38 rfl ?_
        refine r_iload_n (Y := YX9_led) dX9_led_39 rfl ?_
        refine r_iload (Y := YX9_led) dX9_led_40 rfl ?_
        refine r_iV2I (Y := YX9_led) mv_X9_197 dX9_led_42 (c_X9_inchesOf hm (by omega) (by omega) (by omega) (by omega) t1 hW) (by assumption) (fun σ42 z42 h42 => ?_)
        obtain ⟨e42, rfl⟩ := h42
        subst e42
        refine r_iadd (Y := YX9_led) dX9_led_45 ?_
        refine r_istore_n (Y := YX9_led) dX9_led_46 ?_
        refine r_iinc (Y := YX9_led) dX9_led_47 rfl ?_
        refine r_goto (Y := YX9_led) (tgt := 31) dX9_led_50 (by decide) ?_
        exact R2.weak (by repeat first | exact trivial | refine And.intro rfl ?_) (ih (n + 1) (by omega))
    · refine r_bipush (Y := YX9_led) dX9_led_19 ?_
      refine r_ireturn (Y := YX9_led) dX9_led_21 ?_
      first
        | (exfalso; omega)
        | (unfold ledF; (repeat (first | rw [if_pos (by omega)] | rw [if_neg (by omega)])); exact ⟨rfl, hM, fun _ _ _ => rfl⟩)
  · refine r_iconst (Y := YX9_led) dX9_led_7 ?_
    refine r_ireturn (Y := YX9_led) dX9_led_8 ?_
    first
      | (exfalso; omega)
      | (unfold ledF; (repeat (first | rw [if_pos (by omega)] | rw [if_neg (by omega)])); exact ⟨rfl, hM, fun _ _ _ => rfl⟩)
def dwB (x : Int) (B : AB) (n : Int) : AB := if x % 3 = 0 then sinR B n 1 else if x % 3 = 1 then prayR B n 1 else weaveR B n (x % 4)
theorem dw_one (q : Int × AB) (n : Nat) : dwStep q n = ((75 * q.1 + 74) % 65537, dwB ((75 * q.1 + 74) % 65537) q.2 n) := rfl
set_option maxRecDepth 20000 in
theorem c_X9_doesBy {σ : ab_S} {m : Int} (hm : kd_ m 9 37) {B : AB} (hM : MT σ m B) (hW : WA B) {p : Int} (hp1 : 0 ≤ p) (hp2 : p < 6) {x : Int} (hx1 : 0 ≤ x) (hx2 : x < 65537) : C2 YX9_doesBy 1 σ [rf m, iv p, iv x] (PV fun σ' => MT σ' m (dwB x B p) ∧ FM σ σ' m) := by
  obtain ⟨k1, k2, k3, k4, k5, k6, k7, k8, k9, k10, k11, k12, k13, k14, k15, k16, k17, k18, k19, k20, k21, k22, k23, k24, k25, k26⟩ := kd_model hm
  have hh := hW.1 p hp1 hp2
  have hb := hW.2.2.1 p hp1 hp2
  have hpc := pray_cases B p 1
  have hwc := weave_cases B p (x % 4)
  have hnp := nz_bd (prayZ_bd B p 1).1 (prayZ_bd B p 1).2
  have hnw := nz_bd (weaveZ_bd B p (x % 4)).1 (weaveZ_bd B p (x % 4)).2
  refine C2.of (by decide +kernel) (Nat.le_of_ble_eq_true rfl) ?_
  refine r_iload_n (Y := YX9_doesBy) dX9_doesBy_0 rfl ?_
  refine r_iconst (Y := YX9_doesBy) dX9_doesBy_1 ?_
  refine r_irem (Y := YX9_doesBy) dX9_doesBy_2 ?_
  refine r_top (Y := YX9_doesBy) (v := x % 3) (Int.tmod_eq_emod_of_nonneg (by omega)) ?_
  refine r_if_ne (Y := YX9_doesBy) (tgt := 34) dX9_doesBy_3 (by decide) (fun c3 => ?_) (fun c3 => ?_) 
  · refine r_iload_n (Y := YX9_doesBy) dX9_doesBy_34 rfl ?_
    refine r_iconst (Y := YX9_doesBy) dX9_doesBy_35 ?_
    refine r_irem (Y := YX9_doesBy) dX9_doesBy_36 ?_
    refine r_top (Y := YX9_doesBy) (v := x % 3) (Int.tmod_eq_emod_of_nonneg (by omega)) ?_
    refine r_iconst (Y := YX9_doesBy) dX9_doesBy_37 ?_
    refine r_icmp_ne (Y := YX9_doesBy) (tgt := 75) dX9_doesBy_38 (by decide) (fun c38 => ?_) (fun c38 => ?_) 
    · refine r_aload_n (Y := YX9_doesBy) dX9_doesBy_75 rfl ?_
      refine r_iload_n (Y := YX9_doesBy) dX9_doesBy_76 rfl ?_
      refine r_iload_n (Y := YX9_doesBy) dX9_doesBy_77 rfl ?_
      refine r_iconst (Y := YX9_doesBy) dX9_doesBy_78 ?_
      refine r_irem (Y := YX9_doesBy) dX9_doesBy_79 ?_
      refine r_top (Y := YX9_doesBy) (v := x % 4) (Int.tmod_eq_emod_of_nonneg (by omega)) ?_
      refine r_iV2I (Y := YX9_doesBy) mv_X9_152 dX9_doesBy_80 (c_X9_whyNoLock hm hM hW hp1 hp2 (by omega) (by omega)) (by assumption) (fun σ80 z80 h80 => ?_)
      obtain ⟨rfl, rfl⟩ := h80
      refine r_bipush (Y := YX9_doesBy) dX9_doesBy_83 ?_
      refine r_icmp_ne (Y := YX9_doesBy) (tgt := 96) dX9_doesBy_85 (by decide) (fun c85 => ?_) (fun c85 => ?_) 
      · refine r_return (Y := YX9_doesBy) dX9_doesBy_96 ?_
        unfold dwB
        (repeat (first | rw [if_pos (by omega)] | rw [if_neg (by omega)]))
        first
          | exact ⟨b1, b2⟩
          | (rw [sinR_eq (by omega)]; exact ⟨hM.hair (up_same _ _ _ _) (fun k i a b => by (try delta up); (try delta cpy); (try dsimp only); repeat (first | rw [if_pos (by omega)] | rw [if_neg (by omega)]); try (first | rfl | assumption | omega)), fun k i a b => by (try delta up); (try delta cpy); (try dsimp only); repeat (first | rw [if_pos (by omega)] | rw [if_neg (by omega)]); try (first | rfl | assumption | omega)⟩)
          | (rw [sinR_nq (by omega)]; exact ⟨hM.kept (fun k i b => by by_cases e : k = m + 13 ∧ i = p; (rw [e.1, e.2, up_same, hM.1 p hp1 hp2]; omega); exact (by (try delta up); (try delta cpy); (try dsimp only); repeat (first | rw [if_pos (by omega)] | rw [if_neg (by omega)]); try (first | rfl | assumption | omega))), fun k i a b => by (try delta up); (try delta cpy); (try dsimp only); repeat (first | rw [if_pos (by omega)] | rw [if_neg (by omega)]); try (first | rfl | assumption | omega)⟩)
          | (rcases hpc with q | q | q
             · first | (exfalso; omega) | (rw [q.2.2]; exact ⟨hM, FM.rf⟩)
             · first | (exfalso; omega) | (rw [q.2.2.2]; exact ⟨hM, FM.rf⟩)
             · first | (exfalso; omega) | (rw [q.2.2.2]; exact ⟨(hM.hair (up_same _ _ _ _) (fun k i a b => by (try delta up); (try delta cpy); (try dsimp only); repeat (first | rw [if_pos (by omega)] | rw [if_neg (by omega)]); try (first | rfl | assumption | omega))).bask (up_same _ _ _ _) (fun k i a b => by (try delta up); (try delta cpy); (try dsimp only); repeat (first | rw [if_pos (by omega)] | rw [if_neg (by omega)]); try (first | rfl | assumption | omega)), fun k i a b => by (try delta up); (try delta cpy); (try dsimp only); repeat (first | rw [if_pos (by omega)] | rw [if_neg (by omega)]); try (first | rfl | assumption | omega)⟩))
          | (rcases hwc with q | q | q
             · first | (exfalso; omega) | (rw [q.2.2]; exact ⟨hM, FM.rf⟩)
             · first | (exfalso; omega) | (rw [q.2.2.2]; exact ⟨hM, FM.rf⟩)
             · exfalso; omega)
      · refine r_aload_n (Y := YX9_doesBy) dX9_doesBy_88 rfl ?_
        refine r_iload_n (Y := YX9_doesBy) dX9_doesBy_89 rfl ?_
        refine r_iload_n (Y := YX9_doesBy) dX9_doesBy_90 rfl ?_
        refine r_iconst (Y := YX9_doesBy) dX9_doesBy_91 ?_
        refine r_irem (Y := YX9_doesBy) dX9_doesBy_92 ?_
        refine r_top (Y := YX9_doesBy) (v := x % 4) (Int.tmod_eq_emod_of_nonneg (by omega)) ?_
        have hq : (aR B (x % 4)).length < 8 ∧ weaveR B p (x % 4) = setB (setR B (x % 4) (aR B (x % 4) ++ [(p, aB B p, aWk B)])) p 0 := by rcases hwc with q | q | q; (exfalso; omega); (exfalso; omega); exact ⟨by omega, q.2.2.2⟩
        refine r_iV2V (Y := YX9_doesBy) mv_X9_155 dX9_doesBy_93 (c_X9_weave hm hM hW hp1 hp2 (by omega) (by omega) hq.1) (by assumption) (fun σ93 h93 => ?_)
        obtain ⟨b1, b2⟩ := h93
        rw [← hq.2] at b1
        refine r_return (Y := YX9_doesBy) dX9_doesBy_96 ?_
        unfold dwB
        (repeat (first | rw [if_pos (by omega)] | rw [if_neg (by omega)]))
        first
          | exact ⟨b1, b2⟩
          | (rw [sinR_eq (by omega)]; exact ⟨hM.hair (up_same _ _ _ _) (fun k i a b => by (try delta up); (try delta cpy); (try dsimp only); repeat (first | rw [if_pos (by omega)] | rw [if_neg (by omega)]); try (first | rfl | assumption | omega)), fun k i a b => by (try delta up); (try delta cpy); (try dsimp only); repeat (first | rw [if_pos (by omega)] | rw [if_neg (by omega)]); try (first | rfl | assumption | omega)⟩)
          | (rw [sinR_nq (by omega)]; exact ⟨hM.kept (fun k i b => by by_cases e : k = m + 13 ∧ i = p; (rw [e.1, e.2, up_same, hM.1 p hp1 hp2]; omega); exact (by (try delta up); (try delta cpy); (try dsimp only); repeat (first | rw [if_pos (by omega)] | rw [if_neg (by omega)]); try (first | rfl | assumption | omega))), fun k i a b => by (try delta up); (try delta cpy); (try dsimp only); repeat (first | rw [if_pos (by omega)] | rw [if_neg (by omega)]); try (first | rfl | assumption | omega)⟩)
          | (rcases hpc with q | q | q
             · first | (exfalso; omega) | (rw [q.2.2]; exact ⟨hM, FM.rf⟩)
             · first | (exfalso; omega) | (rw [q.2.2.2]; exact ⟨hM, FM.rf⟩)
             · first | (exfalso; omega) | (rw [q.2.2.2]; exact ⟨(hM.hair (up_same _ _ _ _) (fun k i a b => by (try delta up); (try delta cpy); (try dsimp only); repeat (first | rw [if_pos (by omega)] | rw [if_neg (by omega)]); try (first | rfl | assumption | omega))).bask (up_same _ _ _ _) (fun k i a b => by (try delta up); (try delta cpy); (try dsimp only); repeat (first | rw [if_pos (by omega)] | rw [if_neg (by omega)]); try (first | rfl | assumption | omega)), fun k i a b => by (try delta up); (try delta cpy); (try dsimp only); repeat (first | rw [if_pos (by omega)] | rw [if_neg (by omega)]); try (first | rfl | assumption | omega)⟩))
          | (rcases hwc with q | q | q
             · first | (exfalso; omega) | (rw [q.2.2]; exact ⟨hM, FM.rf⟩)
             · first | (exfalso; omega) | (rw [q.2.2.2]; exact ⟨hM, FM.rf⟩)
             · exfalso; omega)
    · refine r_aload_n (Y := YX9_doesBy) dX9_doesBy_41 rfl ?_
      refine r_iload_n (Y := YX9_doesBy) dX9_doesBy_42 rfl ?_
      refine r_iconst (Y := YX9_doesBy) dX9_doesBy_43 ?_
      refine r_iV2I (Y := YX9_doesBy) mv_X9_148 dX9_doesBy_44 (c_X9_whyNoMore hm hM hW hp1 hp2 (by omega) (by omega)) (by assumption) (fun σ44 z44 h44 => ?_)
      obtain ⟨rfl, rfl⟩ := h44
      refine r_bipush (Y := YX9_doesBy) dX9_doesBy_47 ?_
      refine r_icmp_ne (Y := YX9_doesBy) (tgt := 96) dX9_doesBy_49 (by decide) (fun c49 => ?_) (fun c49 => ?_) 
      · refine r_return (Y := YX9_doesBy) dX9_doesBy_96 ?_
        unfold dwB
        (repeat (first | rw [if_pos (by omega)] | rw [if_neg (by omega)]))
        first
          | exact ⟨b1, b2⟩
          | (rw [sinR_eq (by omega)]; exact ⟨hM.hair (up_same _ _ _ _) (fun k i a b => by (try delta up); (try delta cpy); (try dsimp only); repeat (first | rw [if_pos (by omega)] | rw [if_neg (by omega)]); try (first | rfl | assumption | omega)), fun k i a b => by (try delta up); (try delta cpy); (try dsimp only); repeat (first | rw [if_pos (by omega)] | rw [if_neg (by omega)]); try (first | rfl | assumption | omega)⟩)
          | (rw [sinR_nq (by omega)]; exact ⟨hM.kept (fun k i b => by by_cases e : k = m + 13 ∧ i = p; (rw [e.1, e.2, up_same, hM.1 p hp1 hp2]; omega); exact (by (try delta up); (try delta cpy); (try dsimp only); repeat (first | rw [if_pos (by omega)] | rw [if_neg (by omega)]); try (first | rfl | assumption | omega))), fun k i a b => by (try delta up); (try delta cpy); (try dsimp only); repeat (first | rw [if_pos (by omega)] | rw [if_neg (by omega)]); try (first | rfl | assumption | omega)⟩)
          | (rcases hpc with q | q | q
             · first | (exfalso; omega) | (rw [q.2.2]; exact ⟨hM, FM.rf⟩)
             · first | (exfalso; omega) | (rw [q.2.2.2]; exact ⟨hM, FM.rf⟩)
             · first | (exfalso; omega) | (rw [q.2.2.2]; exact ⟨(hM.hair (up_same _ _ _ _) (fun k i a b => by (try delta up); (try delta cpy); (try dsimp only); repeat (first | rw [if_pos (by omega)] | rw [if_neg (by omega)]); try (first | rfl | assumption | omega))).bask (up_same _ _ _ _) (fun k i a b => by (try delta up); (try delta cpy); (try dsimp only); repeat (first | rw [if_pos (by omega)] | rw [if_neg (by omega)]); try (first | rfl | assumption | omega)), fun k i a b => by (try delta up); (try delta cpy); (try dsimp only); repeat (first | rw [if_pos (by omega)] | rw [if_neg (by omega)]); try (first | rfl | assumption | omega)⟩))
          | (rcases hwc with q | q | q
             · first | (exfalso; omega) | (rw [q.2.2]; exact ⟨hM, FM.rf⟩)
             · first | (exfalso; omega) | (rw [q.2.2.2]; exact ⟨hM, FM.rf⟩)
             · exfalso; omega)
      · refine r_aload_n (Y := YX9_doesBy) dX9_doesBy_52 rfl ?_
        refine r_getR (Y := YX9_doesBy) (δz := 13) fl_X9_46 dX9_doesBy_53 rfl rfl ?_
        refine r_iload_n (Y := YX9_doesBy) dX9_doesBy_56 rfl ?_
        refine r_dup2 (Y := YX9_doesBy) dX9_doesBy_57 ?_
        refine r_iaV (Y := YX9_doesBy) (v := aH B p) dX9_doesBy_58 (hM.1 p hp1 hp2) ?_
        refine r_iconst (Y := YX9_doesBy) dX9_doesBy_59 ?_
        refine r_isub (Y := YX9_doesBy) dX9_doesBy_60 ?_
        refine r_iastore (Y := YX9_doesBy) dX9_doesBy_61 ?_
        refine r_aload_n (Y := YX9_doesBy) dX9_doesBy_62 rfl ?_
        refine r_getR (Y := YX9_doesBy) (δz := 14) fl_X9_49 dX9_doesBy_63 rfl rfl ?_
        refine r_iload_n (Y := YX9_doesBy) dX9_doesBy_66 rfl ?_
        refine r_dup2 (Y := YX9_doesBy) dX9_doesBy_67 ?_
        refine r_iaV (Y := YX9_doesBy) (v := aB B p) dX9_doesBy_68 ((by rw [← hM.2.2.1 p hp1 hp2]; exact (by (try delta up); (try delta cpy); (try dsimp only); repeat (first | rw [if_pos (by omega)] | rw [if_neg (by omega)]); try (first | rfl | assumption | omega)))) ?_
        refine r_iconst (Y := YX9_doesBy) dX9_doesBy_69 ?_
        refine r_iadd (Y := YX9_doesBy) dX9_doesBy_70 ?_
        refine r_iastore (Y := YX9_doesBy) dX9_doesBy_71 ?_
        refine r_goto (Y := YX9_doesBy) (tgt := 96) dX9_doesBy_72 (by decide) ?_
        refine r_return (Y := YX9_doesBy) dX9_doesBy_96 ?_
        unfold dwB
        (repeat (first | rw [if_pos (by omega)] | rw [if_neg (by omega)]))
        first
          | exact ⟨b1, b2⟩
          | (rw [sinR_eq (by omega)]; exact ⟨hM.hair (up_same _ _ _ _) (fun k i a b => by (try delta up); (try delta cpy); (try dsimp only); repeat (first | rw [if_pos (by omega)] | rw [if_neg (by omega)]); try (first | rfl | assumption | omega)), fun k i a b => by (try delta up); (try delta cpy); (try dsimp only); repeat (first | rw [if_pos (by omega)] | rw [if_neg (by omega)]); try (first | rfl | assumption | omega)⟩)
          | (rw [sinR_nq (by omega)]; exact ⟨hM.kept (fun k i b => by by_cases e : k = m + 13 ∧ i = p; (rw [e.1, e.2, up_same, hM.1 p hp1 hp2]; omega); exact (by (try delta up); (try delta cpy); (try dsimp only); repeat (first | rw [if_pos (by omega)] | rw [if_neg (by omega)]); try (first | rfl | assumption | omega))), fun k i a b => by (try delta up); (try delta cpy); (try dsimp only); repeat (first | rw [if_pos (by omega)] | rw [if_neg (by omega)]); try (first | rfl | assumption | omega)⟩)
          | (rcases hpc with q | q | q
             · first | (exfalso; omega) | (rw [q.2.2]; exact ⟨hM, FM.rf⟩)
             · first | (exfalso; omega) | (rw [q.2.2.2]; exact ⟨hM, FM.rf⟩)
             · first | (exfalso; omega) | (rw [q.2.2.2]; exact ⟨(hM.hair (up_same _ _ _ _) (fun k i a b => by (try delta up); (try delta cpy); (try dsimp only); repeat (first | rw [if_pos (by omega)] | rw [if_neg (by omega)]); try (first | rfl | assumption | omega))).bask (up_same _ _ _ _) (fun k i a b => by (try delta up); (try delta cpy); (try dsimp only); repeat (first | rw [if_pos (by omega)] | rw [if_neg (by omega)]); try (first | rfl | assumption | omega)), fun k i a b => by (try delta up); (try delta cpy); (try dsimp only); repeat (first | rw [if_pos (by omega)] | rw [if_neg (by omega)]); try (first | rfl | assumption | omega)⟩))
          | (rcases hwc with q | q | q
             · first | (exfalso; omega) | (rw [q.2.2]; exact ⟨hM, FM.rf⟩)
             · first | (exfalso; omega) | (rw [q.2.2.2]; exact ⟨hM, FM.rf⟩)
             · exfalso; omega)
  · refine r_aload_n (Y := YX9_doesBy) dX9_doesBy_6 rfl ?_
    refine r_getR (Y := YX9_doesBy) (δz := 13) fl_X9_46 dX9_doesBy_7 rfl rfl ?_
    refine r_iload_n (Y := YX9_doesBy) dX9_doesBy_10 rfl ?_
    refine r_dup2 (Y := YX9_doesBy) dX9_doesBy_11 ?_
    refine r_iaV (Y := YX9_doesBy) (v := aH B p) dX9_doesBy_12 (hM.1 p hp1 hp2) ?_
    refine r_aload_n (Y := YX9_doesBy) dX9_doesBy_13 rfl ?_
    refine r_getR (Y := YX9_doesBy) (δz := 13) fl_X9_46 dX9_doesBy_14 rfl rfl ?_
    refine r_iload_n (Y := YX9_doesBy) dX9_doesBy_17 rfl ?_
    refine r_iaV (Y := YX9_doesBy) (v := aH B p) dX9_doesBy_18 (hM.1 p hp1 hp2) ?_
    refine r_bipush (Y := YX9_doesBy) dX9_doesBy_19 ?_
    refine r_icmp_ge (Y := YX9_doesBy) (tgt := 28) dX9_doesBy_21 (by decide) (fun c21 => ?_) (fun c21 => ?_) 
    · refine r_iconst (Y := YX9_doesBy) dX9_doesBy_28 ?_
      refine r_iadd (Y := YX9_doesBy) dX9_doesBy_29 ?_
      refine r_iastore (Y := YX9_doesBy) dX9_doesBy_30 ?_
      refine r_goto (Y := YX9_doesBy) (tgt := 96) dX9_doesBy_31 (by decide) ?_
      refine r_return (Y := YX9_doesBy) dX9_doesBy_96 ?_
      unfold dwB
      (repeat (first | rw [if_pos (by omega)] | rw [if_neg (by omega)]))
      first
        | exact ⟨b1, b2⟩
        | (rw [sinR_eq (by omega)]; exact ⟨hM.hair (up_same _ _ _ _) (fun k i a b => by (try delta up); (try delta cpy); (try dsimp only); repeat (first | rw [if_pos (by omega)] | rw [if_neg (by omega)]); try (first | rfl | assumption | omega)), fun k i a b => by (try delta up); (try delta cpy); (try dsimp only); repeat (first | rw [if_pos (by omega)] | rw [if_neg (by omega)]); try (first | rfl | assumption | omega)⟩)
        | (rw [sinR_nq (by omega)]; exact ⟨hM.kept (fun k i b => by by_cases e : k = m + 13 ∧ i = p; (rw [e.1, e.2, up_same, hM.1 p hp1 hp2]; omega); exact (by (try delta up); (try delta cpy); (try dsimp only); repeat (first | rw [if_pos (by omega)] | rw [if_neg (by omega)]); try (first | rfl | assumption | omega))), fun k i a b => by (try delta up); (try delta cpy); (try dsimp only); repeat (first | rw [if_pos (by omega)] | rw [if_neg (by omega)]); try (first | rfl | assumption | omega)⟩)
        | (rcases hpc with q | q | q
           · first | (exfalso; omega) | (rw [q.2.2]; exact ⟨hM, FM.rf⟩)
           · first | (exfalso; omega) | (rw [q.2.2.2]; exact ⟨hM, FM.rf⟩)
           · first | (exfalso; omega) | (rw [q.2.2.2]; exact ⟨(hM.hair (up_same _ _ _ _) (fun k i a b => by (try delta up); (try delta cpy); (try dsimp only); repeat (first | rw [if_pos (by omega)] | rw [if_neg (by omega)]); try (first | rfl | assumption | omega))).bask (up_same _ _ _ _) (fun k i a b => by (try delta up); (try delta cpy); (try dsimp only); repeat (first | rw [if_pos (by omega)] | rw [if_neg (by omega)]); try (first | rfl | assumption | omega)), fun k i a b => by (try delta up); (try delta cpy); (try dsimp only); repeat (first | rw [if_pos (by omega)] | rw [if_neg (by omega)]); try (first | rfl | assumption | omega)⟩))
        | (rcases hwc with q | q | q
           · first | (exfalso; omega) | (rw [q.2.2]; exact ⟨hM, FM.rf⟩)
           · first | (exfalso; omega) | (rw [q.2.2.2]; exact ⟨hM, FM.rf⟩)
           · exfalso; omega)
    · refine r_iconst (Y := YX9_doesBy) dX9_doesBy_24 ?_
      refine r_goto (Y := YX9_doesBy) (tgt := 29) dX9_doesBy_25 (by decide) ?_
      refine r_iadd (Y := YX9_doesBy) dX9_doesBy_29 ?_
      refine r_iastore (Y := YX9_doesBy) dX9_doesBy_30 ?_
      refine r_goto (Y := YX9_doesBy) (tgt := 96) dX9_doesBy_31 (by decide) ?_
      refine r_return (Y := YX9_doesBy) dX9_doesBy_96 ?_
      unfold dwB
      (repeat (first | rw [if_pos (by omega)] | rw [if_neg (by omega)]))
      first
        | exact ⟨b1, b2⟩
        | (rw [sinR_eq (by omega)]; exact ⟨hM.hair (up_same _ _ _ _) (fun k i a b => by (try delta up); (try delta cpy); (try dsimp only); repeat (first | rw [if_pos (by omega)] | rw [if_neg (by omega)]); try (first | rfl | assumption | omega)), fun k i a b => by (try delta up); (try delta cpy); (try dsimp only); repeat (first | rw [if_pos (by omega)] | rw [if_neg (by omega)]); try (first | rfl | assumption | omega)⟩)
        | (rw [sinR_nq (by omega)]; exact ⟨hM.kept (fun k i b => by by_cases e : k = m + 13 ∧ i = p; (rw [e.1, e.2, up_same, hM.1 p hp1 hp2]; omega); exact (by (try delta up); (try delta cpy); (try dsimp only); repeat (first | rw [if_pos (by omega)] | rw [if_neg (by omega)]); try (first | rfl | assumption | omega))), fun k i a b => by (try delta up); (try delta cpy); (try dsimp only); repeat (first | rw [if_pos (by omega)] | rw [if_neg (by omega)]); try (first | rfl | assumption | omega)⟩)
        | (rcases hpc with q | q | q
           · first | (exfalso; omega) | (rw [q.2.2]; exact ⟨hM, FM.rf⟩)
           · first | (exfalso; omega) | (rw [q.2.2.2]; exact ⟨hM, FM.rf⟩)
           · first | (exfalso; omega) | (rw [q.2.2.2]; exact ⟨(hM.hair (up_same _ _ _ _) (fun k i a b => by (try delta up); (try delta cpy); (try dsimp only); repeat (first | rw [if_pos (by omega)] | rw [if_neg (by omega)]); try (first | rfl | assumption | omega))).bask (up_same _ _ _ _) (fun k i a b => by (try delta up); (try delta cpy); (try dsimp only); repeat (first | rw [if_pos (by omega)] | rw [if_neg (by omega)]); try (first | rfl | assumption | omega)), fun k i a b => by (try delta up); (try delta cpy); (try dsimp only); repeat (first | rw [if_pos (by omega)] | rw [if_neg (by omega)]); try (first | rfl | assumption | omega)⟩))
        | (rcases hwc with q | q | q
           · first | (exfalso; omega) | (rw [q.2.2]; exact ⟨hM, FM.rf⟩)
           · first | (exfalso; omega) | (rw [q.2.2.2]; exact ⟨hM, FM.rf⟩)
           · exfalso; omega)
def lsq (q : Int × AB) (n : Nat) : Int := if n = 0 then -6 else lst q n
set_option maxRecDepth 20000 in
theorem c_X9_year {σ : ab_S} {m : Int} {G : GS} (hm : kd_ m 9 37) (hM : HM σ m G) (hG : OKG G) {s : Int} (hs1 : -2147483648 ≤ s) (hs2 : s ≤ 2147483647) {w : Int} (hw1 : -2147483648 ≤ w) (hw2 : w ≤ 2147483647) {p : Int} (hp1 : -2147483648 ≤ p) (hp2 : p ≤ 2147483647) : C2 YX9_year 3 σ [rf m, iv s, iv w, iv p] (PI fun σ' z => z = (yearF G s w p).1 ∧ HM σ' m (yearF G s w p).2 ∧ FY σ σ' m) := by
  obtain ⟨k1, k2, k3, k4, k5, k6, k7, k8, k9, k10, k11, k12, k13, k14, k15, k16, k17, k18, k19, k20, k21, k22, k23, k24, k25, k26⟩ := kd_model hm
  have hA := hM.1
  have hW := hG.1.1.1
  have hWL := hG.1.1.2
  refine C2.of (by decide +kernel) (Nat.le_of_ble_eq_true rfl) ?_
  refine r_iload_n (Y := YX9_year) dX9_year_0 rfl ?_
  refine r_i2l (Y := YX9_year) dX9_year_1 ?_
  refine r_lconst (Y := YX9_year) (v := 0) dX9_year_2 rfl ?_
  refine r_ldc2 (Y := YX9_year) (z := 9999) wc_X9_202 dX9_year_3 (by decide) ?_
  refine r_iS3I (Y := YX9_year) ms_X9_95 dX9_year_6 (c_in (by omega) (by omega) (by omega) (by omega) (by omega) (by omega)) (fun σ6 z6 h6 => ?_)
  obtain ⟨rfl, h6⟩ := h6
  refine r_if_eq (Y := YX9_year) (tgt := 34) dX9_year_9 (by decide) (fun c9 => ?_) (fun c9 => ?_) 
  · refine r_bipush (Y := YX9_year) dX9_year_34 ?_
    refine r_ireturn (Y := YX9_year) dX9_year_36 ?_
    first
      | (exfalso; omega)
      | (unfold yearF; (repeat (first | rw [if_pos (by omega)] | rw [if_neg (by omega)])); exact ⟨rfl, hM, fun _ _ _ => rfl⟩)
  · refine r_iload_n (Y := YX9_year) dX9_year_12 rfl ?_
    refine r_i2l (Y := YX9_year) dX9_year_13 ?_
    refine r_lconst (Y := YX9_year) (v := 1) dX9_year_14 rfl ?_
    refine r_ldc2 (Y := YX9_year) (z := 60) wc_X9_251 dX9_year_15 (by decide) ?_
    refine r_iS3I (Y := YX9_year) ms_X9_95 dX9_year_18 (c_in (by omega) (by omega) (by omega) (by omega) (by omega) (by omega)) (fun σ18 z18 h18 => ?_)
    obtain ⟨rfl, h18⟩ := h18
    refine r_if_eq (Y := YX9_year) (tgt := 34) dX9_year_21 (by decide) (fun c21 => ?_) (fun c21 => ?_) 
    · refine r_bipush (Y := YX9_year) dX9_year_34 ?_
      refine r_ireturn (Y := YX9_year) dX9_year_36 ?_
      first
        | (exfalso; omega)
        | (unfold yearF; (repeat (first | rw [if_pos (by omega)] | rw [if_neg (by omega)])); exact ⟨rfl, hM, fun _ _ _ => rfl⟩)
    · refine r_iload_n (Y := YX9_year) dX9_year_24 rfl ?_
      refine r_i2l (Y := YX9_year) dX9_year_25 ?_
      refine r_lconst (Y := YX9_year) (v := 0) dX9_year_26 rfl ?_
      refine r_lconst (Y := YX9_year) (v := 1) dX9_year_27 rfl ?_
      refine r_iS3I (Y := YX9_year) ms_X9_95 dX9_year_28 (c_in (by omega) (by omega) (by omega) (by omega) (by omega) (by omega)) (fun σ28 z28 h28 => ?_)
      obtain ⟨rfl, h28⟩ := h28
      refine r_if_ne (Y := YX9_year) (tgt := 37) dX9_year_31 (by decide) (fun c31 => ?_) (fun c31 => ?_) 
      · refine r_aload_n (Y := YX9_year) dX9_year_37 rfl ?_
        refine r_iV0V (Y := YX9_year) mv_X9_159 dX9_year_38 (c_layNow hm hA hW) (by assumption) (fun σ38 h38 => ?_)
        obtain ⟨t1, t2⟩ := h38
        have hM2 := hM.fm t2
        refine r_iload_n (Y := YX9_year) dX9_year_41 rfl ?_
        refine r_istore (Y := YX9_year) dX9_year_42 ?_
        refine r_bipush (Y := YX9_year) dX9_year_44 ?_
        refine r_istore (Y := YX9_year) dX9_year_46 ?_
        refine r_iconst (Y := YX9_year) dX9_year_48 ?_
        refine r_istore (Y := YX9_year) dX9_year_49 ?_
        obtain ⟨wn, rfl⟩ : ∃ wn : Nat, w = wn := ⟨w.toNat, by omega⟩
        have hyo := yr_ok (q := (s, G.1.1)) (by show 0 ≤ s; omega) (by show s < 65537; omega) hW
        have hbo := brs_bd (q := (s, G.1.1)) (by show 0 ≤ s; omega) (by show s < 65537; omega) hW
        have hlo := lst_bd (q := (s, G.1.1)) (by show 0 ≤ s; omega) (by show s < 65537; omega) hW
        suffices hloop : ∀ (k n : Nat) (τ : ab_S), n + k = wn → MT τ m (yrN (s, G.1.1) n).2 → FM σ28 τ m → R2 YX9_year 3 τ 51 [some (rf m), some (iv s), some (iv wn), some (iv p), some (iv (yrN (s, G.1.1) n).1), some (iv (lsq (s, G.1.1) n)), some (iv n), none] [] (PI fun σ' z => z = (yearF G s (wn : Int) p).1 ∧ HM σ' m (yearF G s (wn : Int) p).2 ∧ FY σ28 σ' m) from
          R2.weak (by repeat first | exact trivial | refine And.intro rfl ?_) (hloop wn 0 σ38 (by omega) t1 t2)
        intro k
        induction k with
        | zero =>
          intro n τ e1 e3 e5
          have e6 : n = wn := by omega
          subst e6
          have hl9 := hlo n
          have hlq : lsq (s, G.1.1) n = lst (s, G.1.1) n := if_neg (by omega)
          have hb9 : bearsA (yrN (s, G.1.1) n).2 0 = brs (s, G.1.1) n := by
            cases n with
            | zero => exfalso; omega
            | succ n => rfl
          rw [hlq]
          refine r_iload (Y := YX9_year) dX9_year_51 rfl ?_
          refine r_iload_n (Y := YX9_year) dX9_year_53 rfl ?_
          refine r_icmp_ge (Y := YX9_year) (tgt := 136) dX9_year_54 (by decide) (fun c54 => ?_) (fun c54 => absurd c54 (by omega)) 
          refine r_iload_n (Y := YX9_year) dX9_year_136 rfl ?_
          refine r_if_ne (Y := YX9_year) (tgt := 147) dX9_year_137 (by decide) (fun c137 => ?_) (fun c137 => ?_) 
          · refine r_iload (Y := YX9_year) dX9_year_147 rfl ?_
            refine r_ireturn (Y := YX9_year) dX9_year_149 ?_
            have hK := hM.fm e5
            unfold yearF
            (repeat (first | rw [if_pos (by omega)] | rw [if_neg (by omega)]))
            rw [Int.toNat_natCast]
            exact ⟨rfl, hK, e5.fy⟩
          · refine r_aload_n (Y := YX9_year) dX9_year_140 rfl ?_
            refine r_iV0I (Y := YX9_year) mv_X9_185 dX9_year_141 (c_X9_borne hm e3 (hyo n).2) (by assumption) (fun σ141 z141 h141 => ?_)
            obtain ⟨rfl, rfl⟩ := h141
            rw [hb9]
            refine r_goto (Y := YX9_year) (tgt := 149) dX9_year_144 (by decide) ?_
            refine r_ireturn (Y := YX9_year) dX9_year_149 ?_
            have hK := hM.fm e5
            unfold yearF
            (repeat (first | rw [if_pos (by omega)] | rw [if_neg (by omega)]))
            rw [Int.toNat_natCast]
            exact ⟨rfl, hK, e5.fy⟩
        | succ k ih =>
          intro n τ e1 e3 e5
          have hy9 := hyo n
          have hl9 := hlo n
          have hl8 := hlo (n + 1)
          have hb9 := hbo (n + 1)
          have ih := ih (n + 1)
          have hlq : lsq (s, G.1.1) (n + 1) = lst (s, G.1.1) (n + 1) := if_neg (by omega)
          have hst : lst (s, G.1.1) (n + 1) = min (lst (s, G.1.1) n) (brs (s, G.1.1) (n + 1)) := rfl
          have hlq0 : (n = 0 ∧ lsq (s, G.1.1) n = -6 ∧ lst (s, G.1.1) n = 2147483647) ∨ (lsq (s, G.1.1) n = lst (s, G.1.1) n) := by
            cases n with
            | zero => exact Or.inl ⟨rfl, rfl, rfl⟩
            | succ n => exact Or.inr rfl
          have hWd := WA_dwN hy9.2 6 (Nat.le_refl 6)
          refine r_iload (Y := YX9_year) dX9_year_51 rfl ?_
          refine r_iload_n (Y := YX9_year) dX9_year_53 rfl ?_
          refine r_icmp_ge (Y := YX9_year) (tgt := 136) dX9_year_54 (by decide) (fun c54 => absurd c54 (by omega)) (fun c54 => ?_) 
          refine r_iconst (Y := YX9_year) dX9_year_57 ?_
          refine r_istore (Y := YX9_year) dX9_year_58 ?_
          suffices hin : ∀ (k2 j : Nat) (υ : ab_S), j + k2 = 6 → MT υ m (dwN (yrN (s, G.1.1) n) j).2 → FM σ28 υ m → R2 YX9_year 3 υ 60 [some (rf m), some (iv s), some (iv wn), some (iv p), some (iv (dwN (yrN (s, G.1.1) n) j).1), some (iv (lsq (s, G.1.1) n)), some (iv n), some (iv j)] [] (PI fun σ' z => z = (yearF G s (wn : Int) p).1 ∧ HM σ' m (yearF G s (wn : Int) p).2 ∧ FY σ28 σ' m) from
            R2.weak (by repeat first | exact trivial | refine And.intro rfl ?_) (hin 6 0 τ rfl e3 e5)
          intro k2
          induction k2 with
          | zero =>
            intro j υ g1 g2 g3
            have g4 : j = 6 := by omega
            subst g4
            refine r_iload (Y := YX9_year) dX9_year_60 rfl ?_
            refine r_bipush (Y := YX9_year) dX9_year_62 ?_
            refine r_icmp_ge (Y := YX9_year) (tgt := 99) dX9_year_64 (by decide) (fun c64 => ?_) (fun c64 => absurd c64 (by omega)) 
            refine r_aload_n (Y := YX9_year) dX9_year_99 rfl ?_
            refine r_iV0V (Y := YX9_year) mv_X9_145 dX9_year_100 (c_X9_goWeek hm g2 hWd) (by assumption) (fun σ100 h100 => ?_)
            obtain ⟨f4, f5⟩ := h100
            change MT _ _ (yrN (s, G.1.1) (n + 1)).2 at f4
            refine r_aload_n (Y := YX9_year) dX9_year_103 rfl ?_
            refine r_iV0I (Y := YX9_year) mv_X9_185 dX9_year_104 (c_X9_borne hm f4 (hyo (n + 1)).2) (by assumption) (fun σ104 z104 h104 => ?_)
            obtain ⟨e104, f6⟩ := h104
            subst e104
            change _ = brs (s, G.1.1) (n + 1) at f6
            subst f6
            refine r_istore (Y := YX9_year) dX9_year_107 ?_
            refine r_iload (Y := YX9_year) dX9_year_109 rfl ?_
            refine r_if_lt (Y := YX9_year) (tgt := 121) dX9_year_111 (by decide) (fun c111 => ?_) (fun c111 => ?_) 
            · refine r_iload (Y := YX9_year) dX9_year_121 rfl ?_
              refine r_goto (Y := YX9_year) (tgt := 128) dX9_year_123 (by decide) ?_
              refine r_istore (Y := YX9_year) dX9_year_128 ?_
              refine r_iinc (Y := YX9_year) dX9_year_130 rfl ?_
              refine r_goto (Y := YX9_year) (tgt := 51) dX9_year_133 (by decide) ?_
              have ih9 := ih σ104 (by omega) f4 (g3.tr f5)
              rw [hlq, hst] at ih9
              first
                | (rw [show min (lst (s, G.1.1) n) (brs (s, G.1.1) (n + 1)) = brs (s, G.1.1) (n + 1) by omega] at ih9
                   exact R2.weak (by repeat first | exact trivial | refine And.intro rfl ?_) ih9)
                | (rw [show min (lst (s, G.1.1) n) (brs (s, G.1.1) (n + 1)) = lsq (s, G.1.1) n by omega] at ih9
                   exact R2.weak (by repeat first | exact trivial | refine And.intro rfl ?_) ih9)
            · refine r_iload (Y := YX9_year) dX9_year_114 rfl ?_
              refine r_iload (Y := YX9_year) dX9_year_116 rfl ?_
              refine r_icmp_ge (Y := YX9_year) (tgt := 126) dX9_year_118 (by decide) (fun c118 => ?_) (fun c118 => ?_) 
              · refine r_iload (Y := YX9_year) dX9_year_126 rfl ?_
                refine r_istore (Y := YX9_year) dX9_year_128 ?_
                refine r_iinc (Y := YX9_year) dX9_year_130 rfl ?_
                refine r_goto (Y := YX9_year) (tgt := 51) dX9_year_133 (by decide) ?_
                have ih9 := ih σ104 (by omega) f4 (g3.tr f5)
                rw [hlq, hst] at ih9
                first
                  | (rw [show min (lst (s, G.1.1) n) (brs (s, G.1.1) (n + 1)) = brs (s, G.1.1) (n + 1) by omega] at ih9
                     exact R2.weak (by repeat first | exact trivial | refine And.intro rfl ?_) ih9)
                  | (rw [show min (lst (s, G.1.1) n) (brs (s, G.1.1) (n + 1)) = lsq (s, G.1.1) n by omega] at ih9
                     exact R2.weak (by repeat first | exact trivial | refine And.intro rfl ?_) ih9)
              · refine r_iload (Y := YX9_year) dX9_year_121 rfl ?_
                refine r_goto (Y := YX9_year) (tgt := 128) dX9_year_123 (by decide) ?_
                refine r_istore (Y := YX9_year) dX9_year_128 ?_
                refine r_iinc (Y := YX9_year) dX9_year_130 rfl ?_
                refine r_goto (Y := YX9_year) (tgt := 51) dX9_year_133 (by decide) ?_
                have ih9 := ih σ104 (by omega) f4 (g3.tr f5)
                rw [hlq, hst] at ih9
                first
                  | (rw [show min (lst (s, G.1.1) n) (brs (s, G.1.1) (n + 1)) = brs (s, G.1.1) (n + 1) by omega] at ih9
                     exact R2.weak (by repeat first | exact trivial | refine And.intro rfl ?_) ih9)
                  | (rw [show min (lst (s, G.1.1) n) (brs (s, G.1.1) (n + 1)) = lsq (s, G.1.1) n by omega] at ih9
                     exact R2.weak (by repeat first | exact trivial | refine And.intro rfl ?_) ih9)
          | succ k2 ih2 =>
            intro j υ g1 g2 g3
            have hdb := dwN_bd hy9.1.1 hy9.1.2 j
            have hdw := WA_dwN hy9.2 j (by omega)
            have hds : dwN (yrN (s, G.1.1) n) (j + 1) = dwStep (dwN (yrN (s, G.1.1) n) j) j := rfl
            have ih2 := ih2 (j + 1)
            rw [hds, dw_one] at ih2
            generalize dwN (yrN (s, G.1.1) n) j = qq at g2 hdb hdw ih2
            dsimp only at ih2
            refine r_iload (Y := YX9_year) dX9_year_60 rfl ?_
            refine r_bipush (Y := YX9_year) dX9_year_62 ?_
            refine r_icmp_ge (Y := YX9_year) (tgt := 99) dX9_year_64 (by decide) (fun c64 => absurd c64 (by omega)) (fun c64 => ?_) 
            refine r_ldc2 (Y := YX9_year) (z := 75) wc_X9_253 dX9_year_67 (by decide) ?_
            refine r_iload (Y := YX9_year) dX9_year_70 rfl ?_
            refine r_i2l (Y := YX9_year) dX9_year_72 ?_
            refine r_lmul (Y := YX9_year) dX9_year_73 ?_
            refine r_ldc2 (Y := YX9_year) (z := 74) wc_X9_255 dX9_year_74 (by decide) ?_
            refine r_ladd (Y := YX9_year) dX9_year_77 ?_
            refine r_ldc2 (Y := YX9_year) (z := 65537) wc_X9_257 dX9_year_78 (by decide) ?_
            refine r_lrem (Y := YX9_year) dX9_year_81 ?_
            refine r_l2i (Y := YX9_year) dX9_year_82 ?_
            refine r_istore (Y := YX9_year) dX9_year_83 ?_
            refine r_aload_n (Y := YX9_year) dX9_year_85 rfl ?_
            refine r_iload (Y := YX9_year) dX9_year_86 rfl ?_
            refine r_iload (Y := YX9_year) dX9_year_88 rfl ?_
            refine r_iV2V (Y := YX9_year) mv_X9_259 dX9_year_90 (c_X9_doesBy hm g2 hdw (by omega) (by omega) (by omega) (by omega)) (by assumption) (fun σ90 h90 => ?_)
            obtain ⟨f1, f2⟩ := h90
            refine r_iinc (Y := YX9_year) dX9_year_93 rfl ?_
            refine r_goto (Y := YX9_year) (tgt := 60) dX9_year_96 (by decide) ?_
            exact R2.weak (by repeat first | exact trivial | refine And.intro rfl ?_) (ih2 _ (by omega) f1 (g3.tr f2))
      · refine r_bipush (Y := YX9_year) dX9_year_34 ?_
        refine r_ireturn (Y := YX9_year) dX9_year_36 ?_
        first
          | (exfalso; omega)
          | (unfold yearF; (repeat (first | rw [if_pos (by omega)] | rw [if_neg (by omega)])); exact ⟨rfl, hM, fun _ _ _ => rfl⟩)
