/-! the component whole: locks, the best order, renewals, images, told -/
theorem ords_len {xs : List (Int × Int)} {B : Int → Int} : ∀ (k : Nat) (t c : Int), (ords xs B k t c).length = k
  | 0, _, _ => rfl
  | k + 1, t, c => by
    unfold ords
    rw [List.length_cons, ords_len k]
noncomputable def bestF (G : GS) (i : Int) : Int × GS := if ¬ (-1 ≤ i ∧ i ≤ (G.1.2.1.length : Int) - 1) then (-6, G) else if i < 0 then (VV G.1.2.1 (bearsA G.1.1) G.1.2.1.length 0 0, G) else ((ords G.1.2.1 (bearsA G.1.1) G.1.2.1.length 0 0).getD i.toNat 0, G)
noncomputable def renI (need : Int) (k : Nat) (A : AB) (i : Nat) : Int := match ren need k A with
  | none => -6
  | some q => cod (q.2.getD i 0)
noncomputable def renewF (G : GS) (w need i : Int) : Int × GS := if ¬ (0 ≤ w ∧ w ≤ 4) then (-2, G) else if ¬ (0 ≤ need ∧ need ≤ 9999) then (-2, G) else if ¬ (-1 ≤ i ∧ i ≤ w - 1) then (-2, G) else if i < 0 then (renZ need w.toNat G.1.1, G) else (renI need w.toNat G.1.1 i.toNat, G)
set_option maxRecDepth 20000 in
theorem c_X8_lock {σ : ab_S} {x : Int} {G : GS} (hx : kd_ x 8 8) (hX : HX σ x G) (hG : OKG G) {r : Int} (hr1 : -2147483648 ≤ r) (hr2 : r ≤ 2147483647) {l : Int} (hl1 : -2147483648 ≤ l) (hl2 : l ≤ 2147483647) {w : Int} (hw1 : -2147483648 ≤ w) (hw2 : w ≤ 2147483647) : C2 YX8_lock 1 σ [rf x, iv r, iv l, iv w] (PI fun σ' z => z = (lockF G r l w).1 ∧ HX σ' x (lockF G r l w).2 ∧ FX σ σ' x) := by
  obtain ⟨k1, k2, k3, k4, k5, k6, k7, k8⟩ := kd_hb hx
  obtain ⟨w1, w2, w3⟩ := kd_whole k2
  obtain ⟨a1, a2, a3, a4, a5, a6⟩ := kd_abbey w1
  have hA := hX.1.1
  have hW := hG.1.1.1
  have hWL := hG.1.1.2
  refine C2.of (by decide +kernel) (Nat.le_of_ble_eq_true rfl) ?_
  refine r_iload_n (Y := YX8_lock) dX8_lock_0 rfl ?_
  refine r_iconst (Y := YX8_lock) dX8_lock_1 ?_
  refine r_iconst (Y := YX8_lock) dX8_lock_2 ?_
  refine r_iS3I (Y := YX8_lock) ms_X8_59 dX8_lock_3 (c_isIn (by omega) (by omega) (by omega) (by omega) (by omega) (by omega)) (fun σ3 z3 h3 => ?_)
  obtain ⟨rfl, h3⟩ := h3
  refine r_if_ne (Y := YX8_lock) (tgt := 11) dX8_lock_6 (by decide) (fun c6 => ?_) (fun c6 => ?_) 
  · have kr := kd_ropes w1 (i := r) (by omega) (by omega)
    have hWr := hW.2.2.2.1 r (by omega) (by omega)
    have hRr := hA.2.2.2.2.1 r (by omega) (by omega)
    have hl8 := hWr.1
    obtain ⟨j1, j2, j3⟩ := kd_rope kr
    refine r_aload_n (Y := YX8_lock) dX8_lock_11 rfl ?_
    refine r_getR (Y := YX8_lock) (δz := 3) fl_X8_19 dX8_lock_12 rfl rfl ?_
    refine r_getR (Y := YX8_lock) (δz := 1) fl_X8_63 dX8_lock_15 rfl rfl ?_
    refine r_getR (Y := YX8_lock) (δz := 5) fl_X8_105 dX8_lock_18 rfl rfl ?_
    refine r_iload_n (Y := YX8_lock) dX8_lock_21 rfl ?_
    first | refine r_aaload (Y := YX8_lock) (δz := 2) (sz := 4) dX8_lock_22 tg_12 rfl rfl ?_ | refine r_aaload (Y := YX8_lock) (δz := 1) (sz := 30) dX8_lock_22 tg_13 rfl rfl ?_ | refine r_aaload (Y := YX8_lock) (δz := 1) (sz := 23) dX8_lock_22 tg_14 rfl rfl ?_ | refine r_aaload (Y := YX8_lock) (δz := 1) (sz := 1) dX8_lock_22 tg_15 rfl rfl ?_
    refine r_astore (Y := YX8_lock) dX8_lock_23 ?_
    refine r_iload_n (Y := YX8_lock) dX8_lock_25 rfl ?_
    refine r_iconst (Y := YX8_lock) dX8_lock_26 ?_
    refine r_aload (Y := YX8_lock) dX8_lock_27 rfl ?_
    refine r_getV (Y := YX8_lock) (v := ((aR G.1.1 r).length : Int)) (jz := 3) fl_X8_109 dX8_lock_29 (hRr.1) ?_
    refine r_iconst (Y := YX8_lock) dX8_lock_32 ?_
    refine r_isub (Y := YX8_lock) dX8_lock_33 ?_
    refine r_iS3I (Y := YX8_lock) ms_X8_59 dX8_lock_34 (c_isIn (by omega) (by omega) (by omega) (by omega) (by omega) (by omega)) (fun σ34 z34 h34 => ?_)
    obtain ⟨rfl, h34⟩ := h34
    refine r_if_ne (Y := YX8_lock) (tgt := 42) dX8_lock_37 (by decide) (fun c37 => ?_) (fun c37 => ?_) 
    · obtain ⟨lk, hlk, _⟩ := get_some (L := aR G.1.1 r) (i := l.toNat) (by omega)
      have hlv := hRr.2 l.toNat lk hlk
      rw [show ((l.toNat : Nat) : Int) = l by omega] at hlv
      have hlg : lkG (aR G.1.1 r) l = lk := by unfold lkG; rw [List.getD_eq_getElem?_getD, hlk]; rfl
      refine r_iload_n (Y := YX8_lock) dX8_lock_42 rfl ?_
      rcases (show w = 0 ∨ w = 1 ∨ w = 2 ∨ (w < 0 ∨ 2 < w) by omega) with e | e | e | e
      · subst e
        refine r_tableIn (Y := YX8_lock) (off := 25) (tgt := 68) dX8_lock_43 (by decide) (by decide) (by decide) (by decide) ?_
        refine r_aload (Y := YX8_lock) dX8_lock_68 rfl ?_
        refine r_getR (Y := YX8_lock) (δz := 1) fl_X8_112 dX8_lock_70 rfl rfl ?_
        refine r_iload_n (Y := YX8_lock) dX8_lock_73 rfl ?_
        refine r_iaV (Y := YX8_lock) (v := lk.1) dX8_lock_74 (hlv.1) ?_
        refine r_ireturn (Y := YX8_lock) dX8_lock_75 ?_
        unfold lockF
        (repeat (first | rw [if_pos (by omega)] | rw [if_neg (by omega)]))
        rw [hlg]
        exact ⟨rfl, hX, fun _ _ _ => rfl⟩
      · subst e
        refine r_tableIn (Y := YX8_lock) (off := 33) (tgt := 76) dX8_lock_43 (by decide) (by decide) (by decide) (by decide) ?_
        refine r_aload (Y := YX8_lock) dX8_lock_76 rfl ?_
        refine r_getR (Y := YX8_lock) (δz := 2) fl_X8_115 dX8_lock_78 rfl rfl ?_
        refine r_iload_n (Y := YX8_lock) dX8_lock_81 rfl ?_
        refine r_iaV (Y := YX8_lock) (v := lk.2.1) dX8_lock_82 (hlv.2.1) ?_
        refine r_ireturn (Y := YX8_lock) dX8_lock_83 ?_
        unfold lockF
        (repeat (first | rw [if_pos (by omega)] | rw [if_neg (by omega)]))
        rw [hlg]
        exact ⟨rfl, hX, fun _ _ _ => rfl⟩
      · subst e
        refine r_tableIn (Y := YX8_lock) (off := 41) (tgt := 84) dX8_lock_43 (by decide) (by decide) (by decide) (by decide) ?_
        refine r_aload_n (Y := YX8_lock) dX8_lock_84 rfl ?_
        refine r_getR (Y := YX8_lock) (δz := 3) fl_X8_19 dX8_lock_85 rfl rfl ?_
        refine r_getR (Y := YX8_lock) (δz := 1) fl_X8_63 dX8_lock_88 rfl rfl ?_
        refine r_getV (Y := YX8_lock) (v := aWk G.1.1) (jz := 7) fl_X8_118 dX8_lock_91 (hA.2.2.2.2.2.2) ?_
        refine r_aload (Y := YX8_lock) dX8_lock_94 rfl ?_
        refine r_getR (Y := YX8_lock) (δz := 3) fl_X8_121 dX8_lock_96 rfl rfl ?_
        refine r_iload_n (Y := YX8_lock) dX8_lock_99 rfl ?_
        refine r_iaV (Y := YX8_lock) (v := lk.2.2) dX8_lock_100 (hlv.2.2) ?_
        refine r_isub (Y := YX8_lock) dX8_lock_101 ?_
        refine r_ireturn (Y := YX8_lock) dX8_lock_102 ?_
        unfold lockF
        (repeat (first | rw [if_pos (by omega)] | rw [if_neg (by omega)]))
        rw [hlg]
        exact ⟨rfl, hX, fun _ _ _ => rfl⟩
      · refine r_tableOut (Y := YX8_lock) (tgt := 103) dX8_lock_43 e (by decide) ?_
        refine r_bipush (Y := YX8_lock) dX8_lock_103 ?_
        refine r_ireturn (Y := YX8_lock) dX8_lock_105 ?_
        unfold lockF
        (repeat (first | rw [if_pos (by omega)] | rw [if_neg (by omega)]))
        exact ⟨rfl, hX, fun _ _ _ => rfl⟩
    · refine r_iconst (Y := YX8_lock) dX8_lock_40 ?_
      refine r_ireturn (Y := YX8_lock) dX8_lock_41 ?_
      unfold lockF
      (repeat (first | rw [if_pos (by omega)] | rw [if_neg (by omega)]))
      exact ⟨rfl, hX, fun _ _ _ => rfl⟩
  · refine r_iconst (Y := YX8_lock) dX8_lock_9 ?_
    refine r_ireturn (Y := YX8_lock) dX8_lock_10 ?_
    unfold lockF
    (repeat (first | rw [if_pos (by omega)] | rw [if_neg (by omega)]))
    exact ⟨rfl, hX, fun _ _ _ => rfl⟩
set_option maxRecDepth 20000 in
theorem c_X8_best {σ : ab_S} {x : Int} {G : GS} (hx : kd_ x 8 8) (hX : HX σ x G) (hG : OKG G) {i : Int} (hi1 : -2147483648 ≤ i) (hi2 : i ≤ 2147483647) : C2 YX8_best 5 σ [rf x, iv i] (PI fun σ' z => z = (bestF G i).1 ∧ HX σ' x (bestF G i).2 ∧ FX σ σ' x) := by
  obtain ⟨k1, k2, k3, k4, k5, k6, k7, k8⟩ := kd_hb hx
  obtain ⟨w1, w2, w3⟩ := kd_whole k2
  obtain ⟨a1, a2, a3, a4, a5, a6⟩ := kd_abbey w1
  have hA := hX.1.1
  have hW := hG.1.1.1
  have hWL := hG.1.1.2
  refine C2.of (by decide +kernel) (Nat.le_of_ble_eq_true rfl) ?_
  refine r_iload_n (Y := YX8_best) dX8_best_0 rfl ?_
  refine r_iconst (Y := YX8_best) dX8_best_1 ?_
  refine r_aload_n (Y := YX8_best) dX8_best_2 rfl ?_
  refine r_getR (Y := YX8_best) (δz := 3) fl_X8_19 dX8_best_3 rfl rfl ?_
  refine r_getR (Y := YX8_best) (δz := 24) fl_X8_153 dX8_best_6 rfl rfl ?_
  refine r_getV (Y := YX8_best) (v := (G.1.2.1.length : Int)) (jz := 2) fl_X8_162 dX8_best_9 (hX.1.2.1.1) ?_
  refine r_iconst (Y := YX8_best) dX8_best_12 ?_
  refine r_isub (Y := YX8_best) dX8_best_13 ?_
  refine r_iS3I (Y := YX8_best) ms_X8_59 dX8_best_14 (c_isIn (by omega) (by omega) (by omega) (by omega) (by omega) (by omega)) (fun σ14 z14 h14 => ?_)
  obtain ⟨rfl, h14⟩ := h14
  refine r_if_ne (Y := YX8_best) (tgt := 23) dX8_best_17 (by decide) (fun c17 => ?_) (fun c17 => ?_) 
  · refine r_aload_n (Y := YX8_best) dX8_best_23 rfl ?_
    refine r_getR (Y := YX8_best) (δz := 118) fl_X8_41 dX8_best_24 rfl rfl ?_
    refine r_aload_n (Y := YX8_best) dX8_best_27 rfl ?_
    refine r_getR (Y := YX8_best) (δz := 3) fl_X8_19 dX8_best_28 rfl rfl ?_
    refine r_getR (Y := YX8_best) (δz := 1) fl_X8_63 dX8_best_31 rfl rfl ?_
    refine r_aload_n (Y := YX8_best) dX8_best_34 rfl ?_
    refine r_getR (Y := YX8_best) (δz := 3) fl_X8_19 dX8_best_35 rfl rfl ?_
    refine r_getR (Y := YX8_best) (δz := 24) fl_X8_153 dX8_best_38 rfl rfl ?_
    refine r_iV2V (Y := YX8_best) mv_X8_164 dX8_best_41 (c_X1_reckon k6 w1 w2 hA hW hX.1.2.1 hWL.1 hG.1.2.1 (by omega) (by omega)) (by assumption) (fun σ41 h41 => ?_)
    obtain ⟨r1, r2, r3⟩ := h41
    refine r_iload_n (Y := YX8_best) dX8_best_44 rfl ?_
    refine r_if_ge (Y := YX8_best) (tgt := 58) dX8_best_45 (by decide) (fun c45 => ?_) (fun c45 => ?_) 
    · obtain ⟨ov, hov, _⟩ := getI_some (L := ords G.1.2.1 (bearsA G.1.1) G.1.2.1.length 0 0) (i := i.toNat) (by rw [ords_len]; omega)
      have hoi := r2 i.toNat ov hov
      rw [show ((i.toNat : Nat) : Int) = i by omega] at hoi
      refine r_aload_n (Y := YX8_best) dX8_best_58 rfl ?_
      refine r_getR (Y := YX8_best) (δz := 118) fl_X8_41 dX8_best_59 rfl rfl ?_
      refine r_iload_n (Y := YX8_best) dX8_best_62 rfl ?_
      refine r_iV1I (Y := YX8_best) mv_X8_171 dX8_best_63 (c_X1_turn k6 (by omega) (by omega)) (by assumption) (fun σ63 z63 h63 => ?_)
      obtain ⟨rfl, rfl⟩ := h63
      rw [hoi]
      refine r_ireturn (Y := YX8_best) dX8_best_66 ?_
      have hX2 : HX _ x G := hX.kept (fun q i b => r3 q i (by omega) (by omega))
      unfold bestF
      (repeat (first | rw [if_pos (by omega)] | rw [if_neg (by omega)]))
      refine ⟨?_, hX2, fun q i b => r3 q i (by omega) (by omega)⟩
      first
        | rfl
        | (rw [List.getD_eq_getElem?_getD, hov]; rfl)
    · refine r_aload_n (Y := YX8_best) dX8_best_48 rfl ?_
      refine r_getR (Y := YX8_best) (δz := 118) fl_X8_41 dX8_best_49 rfl rfl ?_
      refine r_iV0I (Y := YX8_best) mv_X8_168 dX8_best_52 (c_X1_most k6) (by assumption) (fun σ52 z52 h52 => ?_)
      obtain ⟨rfl, rfl⟩ := h52
      rw [r1]
      refine r_goto (Y := YX8_best) (tgt := 66) dX8_best_55 (by decide) ?_
      refine r_ireturn (Y := YX8_best) dX8_best_66 ?_
      have hX2 : HX _ x G := hX.kept (fun q i b => r3 q i (by omega) (by omega))
      unfold bestF
      (repeat (first | rw [if_pos (by omega)] | rw [if_neg (by omega)]))
      refine ⟨?_, hX2, fun q i b => r3 q i (by omega) (by omega)⟩
      first
        | rfl
        | (rw [List.getD_eq_getElem?_getD, hov]; rfl)
  · refine r_bipush (Y := YX8_best) dX8_best_20 ?_
    refine r_ireturn (Y := YX8_best) dX8_best_22 ?_
    unfold bestF
    (repeat (first | rw [if_pos (by omega)] | rw [if_neg (by omega)]))
    exact ⟨rfl, hX, fun _ _ _ => rfl⟩
set_option maxRecDepth 20000 in
theorem c_X8_renewed {σ : ab_S} {x : Int} {G : GS} (hx : kd_ x 8 8) (hX : HX σ x G) (hG : OKG G) {w : Int} (hw1 : -2147483648 ≤ w) (hw2 : w ≤ 2147483647) {n : Int} (hn1 : -2147483648 ≤ n) (hn2 : n ≤ 2147483647) {i : Int} (hi1 : -2147483648 ≤ i) (hi2 : i ≤ 2147483647) : C2 YX8_renewed 15 σ [rf x, iv w, iv n, iv i] (PI fun σ' z => z = (renewF G w n i).1 ∧ HX σ' x (renewF G w n i).2 ∧ FX σ σ' x) := by
  obtain ⟨k1, k2, k3, k4, k5, k6, k7, k8⟩ := kd_hb hx
  obtain ⟨w1, w2, w3⟩ := kd_whole k2
  obtain ⟨a1, a2, a3, a4, a5, a6⟩ := kd_abbey w1
  have hA := hX.1.1
  have hW := hG.1.1.1
  have hWL := hG.1.1.2
  refine C2.of (by decide +kernel) (Nat.le_of_ble_eq_true rfl) ?_
  refine r_iload_n (Y := YX8_renewed) dX8_renewed_0 rfl ?_
  refine r_iconst (Y := YX8_renewed) dX8_renewed_1 ?_
  refine r_iconst (Y := YX8_renewed) dX8_renewed_2 ?_
  refine r_iS3I (Y := YX8_renewed) ms_X8_59 dX8_renewed_3 (c_isIn (by omega) (by omega) (by omega) (by omega) (by omega) (by omega)) (fun σ3 z3 h3 => ?_)
  obtain ⟨rfl, h3⟩ := h3
  refine r_if_eq (Y := YX8_renewed) (tgt := 31) dX8_renewed_6 (by decide) (fun c6 => ?_) (fun c6 => ?_) 
  · refine r_bipush (Y := YX8_renewed) dX8_renewed_31 ?_
    refine r_ireturn (Y := YX8_renewed) dX8_renewed_33 ?_
    unfold renewF
    (repeat (first | rw [if_pos (by omega)] | rw [if_neg (by omega)]))
    exact ⟨rfl, hX, fun _ _ _ => rfl⟩
  · refine r_iload_n (Y := YX8_renewed) dX8_renewed_9 rfl ?_
    refine r_iconst (Y := YX8_renewed) dX8_renewed_10 ?_
    refine r_sipush (Y := YX8_renewed) dX8_renewed_11 ?_
    refine r_iS3I (Y := YX8_renewed) ms_X8_59 dX8_renewed_14 (c_isIn (by omega) (by omega) (by omega) (by omega) (by omega) (by omega)) (fun σ14 z14 h14 => ?_)
    obtain ⟨rfl, h14⟩ := h14
    refine r_if_eq (Y := YX8_renewed) (tgt := 31) dX8_renewed_17 (by decide) (fun c17 => ?_) (fun c17 => ?_) 
    · refine r_bipush (Y := YX8_renewed) dX8_renewed_31 ?_
      refine r_ireturn (Y := YX8_renewed) dX8_renewed_33 ?_
      unfold renewF
      (repeat (first | rw [if_pos (by omega)] | rw [if_neg (by omega)]))
      exact ⟨rfl, hX, fun _ _ _ => rfl⟩
    · refine r_iload_n (Y := YX8_renewed) dX8_renewed_20 rfl ?_
      refine r_iconst (Y := YX8_renewed) dX8_renewed_21 ?_
      refine r_iload_n (Y := YX8_renewed) dX8_renewed_22 rfl ?_
      refine r_iconst (Y := YX8_renewed) dX8_renewed_23 ?_
      refine r_isub (Y := YX8_renewed) dX8_renewed_24 ?_
      refine r_iS3I (Y := YX8_renewed) ms_X8_59 dX8_renewed_25 (c_isIn (by omega) (by omega) (by omega) (by omega) (by omega) (by omega)) (fun σ25 z25 h25 => ?_)
      obtain ⟨rfl, h25⟩ := h25
      refine r_if_ne (Y := YX8_renewed) (tgt := 34) dX8_renewed_28 (by decide) (fun c28 => ?_) (fun c28 => ?_) 
      · obtain ⟨k, rfl⟩ : ∃ k : Nat, w = k := ⟨w.toNat, by omega⟩
        have hn9 : 0 ≤ n ∧ n ≤ 9999 := by omega
        have hi9 : -1 ≤ i ∧ i ≤ (k : Int) - 1 := by omega
        have hk9 : 0 ≤ (k : Int) ∧ (k : Int) ≤ 4 := by omega
        refine r_aload_n (Y := YX8_renewed) dX8_renewed_34 rfl ?_
        refine r_getR (Y := YX8_renewed) (δz := 125) fl_X8_48 dX8_renewed_35 rfl rfl ?_
        refine r_aload_n (Y := YX8_renewed) dX8_renewed_38 rfl ?_
        refine r_getR (Y := YX8_renewed) (δz := 3) fl_X8_19 dX8_renewed_39 rfl rfl ?_
        refine r_getR (Y := YX8_renewed) (δz := 1) fl_X8_63 dX8_renewed_42 rfl rfl ?_
        refine r_iload_n (Y := YX8_renewed) dX8_renewed_45 rfl ?_
        refine r_iload_n (Y := YX8_renewed) dX8_renewed_46 rfl ?_
        refine r_iV3I (Y := YX8_renewed) mv_X8_174 dX8_renewed_47 (c_X4_fewestInches k7 (by omega) w1 hA hW (by omega) (by omega) (by omega)) (by assumption) (fun σ47 z47 h47 => ?_)
        obtain ⟨rfl, f2, f3⟩ := h47
        have hX2 : HX σ47 x G := hX.kept (fun q i b => f3 q i (by omega))
        have hrz : Unit → (ren n k G.1.1 = none ∧ renZ n k G.1.1 = -6) ∨ (∃ q, ren n k G.1.1 = some q ∧ renZ n k G.1.1 = q.1 ∧ 0 ≤ q.1 ∧ q.1 < 595) := by
          intro _
          unfold renZ
          cases hr : ren n k G.1.1 with
          | none => exact Or.inl ⟨rfl, rfl⟩
          | some q => exact Or.inr ⟨q, rfl, rfl, ren_lt hW hr⟩
        have hrb : -6 ≤ renZ n k G.1.1 ∧ renZ n k G.1.1 < 595 := by
          rcases hrz () with q | ⟨q, q1, q2, q3, q4⟩ <;> omega
        refine r_istore (Y := YX8_renewed) dX8_renewed_50 ?_
        refine r_iload_n (Y := YX8_renewed) dX8_renewed_52 rfl ?_
        refine r_if_lt (Y := YX8_renewed) (tgt := 63) dX8_renewed_53 (by decide) (fun c53 => ?_) (fun c53 => ?_) 
        · refine r_iload (Y := YX8_renewed) dX8_renewed_63 rfl ?_
          refine r_goto (Y := YX8_renewed) (tgt := 76) dX8_renewed_65 (by decide) ?_
          refine r_ireturn (Y := YX8_renewed) dX8_renewed_76 ?_
          have hF : FX _ _ x := fun q i b => f3 q i (by omega)
          unfold renewF
          rw [if_neg (not_not_intro hk9), if_neg (not_not_intro hn9), if_neg (not_not_intro hi9)]
          (repeat (first | rw [if_pos (by omega)] | rw [if_neg (by omega)]))
          rw [Int.toNat_natCast]
          refine ⟨?_, hX2, hF⟩
          first
            | rfl
            | (rcases hrz () with ⟨q1, q2⟩ | ⟨q, q1, q2, q3, q4⟩
               · first
                   | (exfalso; omega)
                   | (show _ = renI n k G.1.1 i.toNat; unfold renI; rw [q1]; exact q2)
               · first
                   | (exfalso; omega)
                   | (obtain ⟨ov, hov, _⟩ := getI_some (L := q.2) (i := i.toNat) (by rw [(ren_bd hW q1).2.2.1]; omega)
                      have hoi := f2 q q1 i.toNat ov hov
                      rw [show ((i.toNat : Nat) : Int) = i by omega] at hoi
                      show _ = renI n k G.1.1 i.toNat
                      unfold renI
                      rw [q1, hoi]
                      show cod ov = cod (q.2.getD i.toNat 0)
                      rw [List.getD_eq_getElem?_getD, hov]
                      rfl))
        · refine r_iload (Y := YX8_renewed) dX8_renewed_56 rfl ?_
          refine r_bipush (Y := YX8_renewed) dX8_renewed_58 ?_
          refine r_icmp_ne (Y := YX8_renewed) (tgt := 68) dX8_renewed_60 (by decide) (fun c60 => ?_) (fun c60 => ?_) 
          · refine r_aload_n (Y := YX8_renewed) dX8_renewed_68 rfl ?_
            refine r_getR (Y := YX8_renewed) (δz := 125) fl_X8_48 dX8_renewed_69 rfl rfl ?_
            refine r_iload_n (Y := YX8_renewed) dX8_renewed_72 rfl ?_
            refine r_iV1I (Y := YX8_renewed) mv_X8_178 dX8_renewed_73 (c_X4_wovenAhead k7 (by omega) (by omega)) (by assumption) (fun σ73 z73 h73 => ?_)
            obtain ⟨rfl, rfl⟩ := h73
            refine r_ireturn (Y := YX8_renewed) dX8_renewed_76 ?_
            have hF : FX _ _ x := fun q i b => f3 q i (by omega)
            unfold renewF
            rw [if_neg (not_not_intro hk9), if_neg (not_not_intro hn9), if_neg (not_not_intro hi9)]
            (repeat (first | rw [if_pos (by omega)] | rw [if_neg (by omega)]))
            rw [Int.toNat_natCast]
            refine ⟨?_, hX2, hF⟩
            first
              | rfl
              | (rcases hrz () with ⟨q1, q2⟩ | ⟨q, q1, q2, q3, q4⟩
                 · first
                     | (exfalso; omega)
                     | (show _ = renI n k G.1.1 i.toNat; unfold renI; rw [q1]; exact q2)
                 · first
                     | (exfalso; omega)
                     | (obtain ⟨ov, hov, _⟩ := getI_some (L := q.2) (i := i.toNat) (by rw [(ren_bd hW q1).2.2.1]; omega)
                        have hoi := f2 q q1 i.toNat ov hov
                        rw [show ((i.toNat : Nat) : Int) = i by omega] at hoi
                        show _ = renI n k G.1.1 i.toNat
                        unfold renI
                        rw [q1, hoi]
                        show cod ov = cod (q.2.getD i.toNat 0)
                        rw [List.getD_eq_getElem?_getD, hov]
                        rfl))
          · refine r_iload (Y := YX8_renewed) dX8_renewed_63 rfl ?_
            refine r_goto (Y := YX8_renewed) (tgt := 76) dX8_renewed_65 (by decide) ?_
            refine r_ireturn (Y := YX8_renewed) dX8_renewed_76 ?_
            have hF : FX _ _ x := fun q i b => f3 q i (by omega)
            unfold renewF
            rw [if_neg (not_not_intro hk9), if_neg (not_not_intro hn9), if_neg (not_not_intro hi9)]
            (repeat (first | rw [if_pos (by omega)] | rw [if_neg (by omega)]))
            rw [Int.toNat_natCast]
            refine ⟨?_, hX2, hF⟩
            first
              | rfl
              | (rcases hrz () with ⟨q1, q2⟩ | ⟨q, q1, q2, q3, q4⟩
                 · first
                     | (exfalso; omega)
                     | (show _ = renI n k G.1.1 i.toNat; unfold renI; rw [q1]; exact q2)
                 · first
                     | (exfalso; omega)
                     | (obtain ⟨ov, hov, _⟩ := getI_some (L := q.2) (i := i.toNat) (by rw [(ren_bd hW q1).2.2.1]; omega)
                        have hoi := f2 q q1 i.toNat ov hov
                        rw [show ((i.toNat : Nat) : Int) = i by omega] at hoi
                        show _ = renI n k G.1.1 i.toNat
                        unfold renI
                        rw [q1, hoi]
                        show cod ov = cod (q.2.getD i.toNat 0)
                        rw [List.getD_eq_getElem?_getD, hov]
                        rfl))
      · refine r_bipush (Y := YX8_renewed) dX8_renewed_31 ?_
        refine r_ireturn (Y := YX8_renewed) dX8_renewed_33 ?_
        unfold renewF
        (repeat (first | rw [if_pos (by omega)] | rw [if_neg (by omega)]))
        exact ⟨rfl, hX, fun _ _ _ => rfl⟩
set_option maxRecDepth 20000 in
theorem c_X8_image {σ : ab_S} {x : Int} {G : GS} (hx : kd_ x 8 8) (hX : HX σ x G) (hG : OKG G) {n : Int} (hn1 : -2147483648 ≤ n) (hn2 : n ≤ 2147483647) : C2 YX8_image 4 σ [rf x, iv n] (PI fun σ' z => z = (imageF G n).1 ∧ HX σ' x (imageF G n).2 ∧ FX σ σ' x) := by
  obtain ⟨k1, k2, k3, k4, k5, k6, k7, k8⟩ := kd_hb hx
  obtain ⟨w1, w2, w3⟩ := kd_whole k2
  obtain ⟨a1, a2, a3, a4, a5, a6⟩ := kd_abbey w1
  have hA := hX.1.1
  have hW := hG.1.1.1
  have hWL := hG.1.1.2
  refine C2.of (by decide +kernel) (Nat.le_of_ble_eq_true rfl) ?_
  refine r_iload_n (Y := YX8_image) dX8_image_0 rfl ?_
  refine r_iconst (Y := YX8_image) dX8_image_1 ?_
  refine r_iconst (Y := YX8_image) dX8_image_2 ?_
  refine r_iS3I (Y := YX8_image) ms_X8_59 dX8_image_3 (c_isIn (by omega) (by omega) (by omega) (by omega) (by omega) (by omega)) (fun σ3 z3 h3 => ?_)
  obtain ⟨rfl, h3⟩ := h3
  refine r_if_ne (Y := YX8_image) (tgt := 12) dX8_image_6 (by decide) (fun c6 => ?_) (fun c6 => ?_) 
  · have ki := kd_images hx (i := n) (by omega) (by omega)
    refine r_aload_n (Y := YX8_image) dX8_image_12 rfl ?_
    refine r_getR (Y := YX8_image) (δz := 33) fl_X8_23 dX8_image_13 rfl rfl ?_
    refine r_iload_n (Y := YX8_image) dX8_image_16 rfl ?_
    first | refine r_aaload (Y := YX8_image) (δz := 2) (sz := 4) dX8_image_17 tg_12 rfl rfl ?_ | refine r_aaload (Y := YX8_image) (δz := 1) (sz := 30) dX8_image_17 tg_13 rfl rfl ?_ | refine r_aaload (Y := YX8_image) (δz := 1) (sz := 23) dX8_image_17 tg_14 rfl rfl ?_ | refine r_aaload (Y := YX8_image) (δz := 1) (sz := 1) dX8_image_17 tg_15 rfl rfl ?_
    refine r_aload_n (Y := YX8_image) dX8_image_18 rfl ?_
    refine r_getR (Y := YX8_image) (δz := 3) fl_X8_19 dX8_image_19 rfl rfl ?_
    refine r_iV1V (Y := YX8_image) mv_X8_216 dX8_image_22 (c_X6_become ki k2 hX.1 hG.1.1 (by omega)) (by assumption) (fun σ22 h22 => ?_)
    obtain ⟨b1, b2⟩ := h22
    refine r_aload_n (Y := YX8_image) dX8_image_25 rfl ?_
    refine r_getR (Y := YX8_image) (δz := 94) fl_X8_27 dX8_image_26 rfl rfl ?_
    refine r_iload_n (Y := YX8_image) dX8_image_29 rfl ?_
    refine r_iconst (Y := YX8_image) dX8_image_30 ?_
    refine r_bastore (Y := YX8_image) dX8_image_31 (by decide) ?_
    refine r_iconst (Y := YX8_image) dX8_image_32 ?_
    refine r_ireturn (Y := YX8_image) dX8_image_33 ?_
    unfold imageF
    (repeat (first | rw [if_pos (by omega)] | rw [if_neg (by omega)]))
    refine ⟨rfl, ⟨hX.1.kept (fun q i c1 c2 _ => ?_), hX.2.1.kept (fun q i c1 c2 => ?_), fun i i1 i2 => ?_, ?_, fun i i1 i2 => ?_⟩, fun q i b => ?_⟩
    · rw [← b2 q i (by omega)]; exact (by (try delta up); (try delta cpy); (try dsimp only); repeat (first | rw [if_pos (by omega)] | rw [if_neg (by omega)]); try (first | rfl | assumption | omega))
    · rw [← b2 q i (by omega)]; exact (by (try delta up); (try delta cpy); (try dsimp only); repeat (first | rw [if_pos (by omega)] | rw [if_neg (by omega)]); try (first | rfl | assumption | omega))
    · by_cases e : i = n
      · subst e
        refine Or.inr ⟨G.1, by show fu G.2.2 i (some G.1) i = _; rw [fu_same], up_same _ _ _ _, b1.kept (fun q j c1 c2 _ => ?_)⟩
        exact (by (try delta up); (try delta cpy); (try dsimp only); repeat (first | rw [if_pos (by omega)] | rw [if_neg (by omega)]); try (first | rfl | assumption | omega))
      · have hz : ∀ j : Int, j ≠ n → up σ22 (x + 94) n 1 (x + 94) j = σ3 (x + 94) j := fun j hj => by rw [← b2 _ _ (by omega)]; exact (by (try delta up); (try delta cpy); (try dsimp only); repeat (first | rw [if_pos (by omega)] | rw [if_neg (by omega)]); try (first | rfl | assumption | omega))
        rw [hz i e]
        show (fu G.2.2 n (some G.1) i = none ∧ _) ∨ ∃ H, fu G.2.2 n (some G.1) i = some H ∧ _
        rw [fu_ne e]
        rcases hX.2.2.1 i i1 i2 with q | ⟨H, q1, q2, q3⟩
        · exact Or.inl q
        · refine Or.inr ⟨H, q1, q2, q3.kept (fun q j c1 c2 _ => ?_)⟩
          rw [← b2 q j (by omega)]; exact (by (try delta up); (try delta cpy); (try dsimp only); repeat (first | rw [if_pos (by omega)] | rw [if_neg (by omega)]); try (first | rfl | assumption | omega))
    · refine Eq.trans (Eq.trans ?_ (b2 _ _ (by omega))) hX.2.2.2.1
      exact (by (try delta up); (try delta cpy); (try dsimp only); repeat (first | rw [if_pos (by omega)] | rw [if_neg (by omega)]); try (first | rfl | assumption | omega))
    · refine Eq.trans (Eq.trans ?_ (b2 _ _ (by omega))) (hX.2.2.2.2 i i1 i2)
      exact (by (try delta up); (try delta cpy); (try dsimp only); repeat (first | rw [if_pos (by omega)] | rw [if_neg (by omega)]); try (first | rfl | assumption | omega))
    · rw [← b2 q i (by omega)]; exact (by (try delta up); (try delta cpy); (try dsimp only); repeat (first | rw [if_pos (by omega)] | rw [if_neg (by omega)]); try (first | rfl | assumption | omega))
  · refine r_bipush (Y := YX8_image) dX8_image_9 ?_
    refine r_ireturn (Y := YX8_image) dX8_image_11 ?_
    unfold imageF
    (repeat (first | rw [if_pos (by omega)] | rw [if_neg (by omega)]))
    exact ⟨rfl, hX, fun _ _ _ => rfl⟩
set_option maxRecDepth 20000 in
theorem c_X8_restore {σ : ab_S} {x : Int} {G : GS} (hx : kd_ x 8 8) (hX : HX σ x G) (hG : OKG G) {n : Int} (hn1 : -2147483648 ≤ n) (hn2 : n ≤ 2147483647) : C2 YX8_restore 4 σ [rf x, iv n] (PI fun σ' z => z = (restoreF G n).1 ∧ HX σ' x (restoreF G n).2 ∧ FX σ σ' x) := by
  obtain ⟨k1, k2, k3, k4, k5, k6, k7, k8⟩ := kd_hb hx
  obtain ⟨w1, w2, w3⟩ := kd_whole k2
  obtain ⟨a1, a2, a3, a4, a5, a6⟩ := kd_abbey w1
  have hA := hX.1.1
  have hW := hG.1.1.1
  have hWL := hG.1.1.2
  refine C2.of (by decide +kernel) (Nat.le_of_ble_eq_true rfl) ?_
  refine r_iload_n (Y := YX8_restore) dX8_restore_0 rfl ?_
  refine r_iconst (Y := YX8_restore) dX8_restore_1 ?_
  refine r_iconst (Y := YX8_restore) dX8_restore_2 ?_
  refine r_iS3I (Y := YX8_restore) ms_X8_59 dX8_restore_3 (c_isIn (by omega) (by omega) (by omega) (by omega) (by omega) (by omega)) (fun σ3 z3 h3 => ?_)
  obtain ⟨rfl, h3⟩ := h3
  refine r_if_ne (Y := YX8_restore) (tgt := 12) dX8_restore_6 (by decide) (fun c6 => ?_) (fun c6 => ?_) 
  · have ki := kd_images hx (i := n) (by omega) (by omega)
    have hk := hX.2.2.1 n (by omega) (by omega)
    have hkz : 0 ≤ σ3 (x + 94) n ∧ σ3 (x + 94) n ≤ 1 := by rcases hk with q | ⟨H, q1, q2, q3⟩ <;> omega
    refine r_aload_n (Y := YX8_restore) dX8_restore_12 rfl ?_
    refine r_getR (Y := YX8_restore) (δz := 94) fl_X8_27 dX8_restore_13 rfl rfl ?_
    refine r_iload_n (Y := YX8_restore) dX8_restore_16 rfl ?_
    refine r_baload (Y := YX8_restore) dX8_restore_17 ?_
    refine r_if_ne (Y := YX8_restore) (tgt := 24) dX8_restore_18 (by decide) (fun c18 => ?_) (fun c18 => ?_) 
    · obtain ⟨H, q1, q2, q3⟩ : ∃ H, G.2.2 n = some H ∧ σ3 (x + 94) n = 1 ∧ RW σ3 (x + 33 + (1 + 30 * n)) H := by
        rcases hk with q | q
        · omega
        · exact q
      refine r_aload_n (Y := YX8_restore) dX8_restore_24 rfl ?_
      refine r_getR (Y := YX8_restore) (δz := 3) fl_X8_19 dX8_restore_25 rfl rfl ?_
      refine r_aload_n (Y := YX8_restore) dX8_restore_28 rfl ?_
      refine r_getR (Y := YX8_restore) (δz := 33) fl_X8_23 dX8_restore_29 rfl rfl ?_
      refine r_iload_n (Y := YX8_restore) dX8_restore_32 rfl ?_
      first | refine r_aaload (Y := YX8_restore) (δz := 2) (sz := 4) dX8_restore_33 tg_12 rfl rfl ?_ | refine r_aaload (Y := YX8_restore) (δz := 1) (sz := 30) dX8_restore_33 tg_13 rfl rfl ?_ | refine r_aaload (Y := YX8_restore) (δz := 1) (sz := 23) dX8_restore_33 tg_14 rfl rfl ?_ | refine r_aaload (Y := YX8_restore) (δz := 1) (sz := 1) dX8_restore_33 tg_15 rfl rfl ?_
      refine r_iV1V (Y := YX8_restore) mv_X8_216 dX8_restore_34 (c_X6_become k2 ki q3 (hG.2.2 n H q1).1 (by omega)) (by assumption) (fun σ34 h34 => ?_)
      obtain ⟨b1, b2⟩ := h34
      refine r_iconst (Y := YX8_restore) dX8_restore_37 ?_
      refine r_ireturn (Y := YX8_restore) dX8_restore_38 ?_
      unfold restoreF
      (repeat (first | rw [if_pos (by omega)] | rw [if_neg (by omega)]))
      rw [q1]
      exact ⟨rfl, hX.now b1 (fun q i b => b2 q i (by omega)), fun q i b => b2 q i (by omega)⟩
    · refine r_bipush (Y := YX8_restore) dX8_restore_21 ?_
      refine r_ireturn (Y := YX8_restore) dX8_restore_23 ?_
      have hno : G.2.2 n = none := by
        rcases hk with q | ⟨H, q1, q2, q3⟩
        · exact q.1
        · omega
      unfold restoreF
      (repeat (first | rw [if_pos (by omega)] | rw [if_neg (by omega)]))
      rw [hno]
      exact ⟨rfl, hX, fun _ _ _ => rfl⟩
  · refine r_bipush (Y := YX8_restore) dX8_restore_9 ?_
    refine r_ireturn (Y := YX8_restore) dX8_restore_11 ?_
    unfold restoreF
    (repeat (first | rw [if_pos (by omega)] | rw [if_neg (by omega)]))
    exact ⟨rfl, hX, fun _ _ _ => rfl⟩
def told1 (G : GS) (w : Int) : Int × GS := if 10 ≤ w ∧ w ≤ 15 then (aH G.1.1 (w - 10), G) else if 20 ≤ w ∧ w ≤ 25 then (aS G.1.1 (w - 20), G) else if 30 ≤ w ∧ w ≤ 35 then (aB G.1.1 (w - 30), G) else if 40 ≤ w ∧ w ≤ 43 then (((aR G.1.1 (w - 40)).length : Int), G) else (-2, G)
set_option maxRecDepth 20000 in
theorem c_X8_toldOfOne {σ : ab_S} {x : Int} {G : GS} (hx : kd_ x 8 8) (hX : HX σ x G) (hG : OKG G) {w : Int} (hw1 : -2147483648 ≤ w) (hw2 : w ≤ 2147483647) : C2 YX8_toldOfOne 1 σ [rf x, iv w] (PI fun σ' z => z = (told1 G w).1 ∧ HX σ' x (told1 G w).2 ∧ FX σ σ' x) := by
  obtain ⟨k1, k2, k3, k4, k5, k6, k7, k8⟩ := kd_hb hx
  obtain ⟨w1, w2, w3⟩ := kd_whole k2
  obtain ⟨a1, a2, a3, a4, a5, a6⟩ := kd_abbey w1
  have hA := hX.1.1
  have hW := hG.1.1.1
  have hWL := hG.1.1.2
  refine C2.of (by decide +kernel) (Nat.le_of_ble_eq_true rfl) ?_
  refine r_iload_n (Y := YX8_toldOfOne) dX8_toldOfOne_0 rfl ?_
  refine r_bipush (Y := YX8_toldOfOne) dX8_toldOfOne_1 ?_
  refine r_bipush (Y := YX8_toldOfOne) dX8_toldOfOne_3 ?_
  refine r_iS3I (Y := YX8_toldOfOne) ms_X8_59 dX8_toldOfOne_5 (c_isIn (by omega) (by omega) (by omega) (by omega) (by omega) (by omega)) (fun σ5 z5 h5 => ?_)
  obtain ⟨rfl, h5⟩ := h5
  refine r_if_eq (Y := YX8_toldOfOne) (tgt := 27) dX8_toldOfOne_8 (by decide) (fun c8 => ?_) (fun c8 => ?_) 
  · refine r_iload_n (Y := YX8_toldOfOne) dX8_toldOfOne_27 rfl ?_
    refine r_bipush (Y := YX8_toldOfOne) dX8_toldOfOne_28 ?_
    refine r_bipush (Y := YX8_toldOfOne) dX8_toldOfOne_30 ?_
    refine r_iS3I (Y := YX8_toldOfOne) ms_X8_59 dX8_toldOfOne_32 (c_isIn (by omega) (by omega) (by omega) (by omega) (by omega) (by omega)) (fun σ32 z32 h32 => ?_)
    obtain ⟨rfl, h32⟩ := h32
    refine r_if_eq (Y := YX8_toldOfOne) (tgt := 54) dX8_toldOfOne_35 (by decide) (fun c35 => ?_) (fun c35 => ?_) 
    · refine r_iload_n (Y := YX8_toldOfOne) dX8_toldOfOne_54 rfl ?_
      refine r_bipush (Y := YX8_toldOfOne) dX8_toldOfOne_55 ?_
      refine r_bipush (Y := YX8_toldOfOne) dX8_toldOfOne_57 ?_
      refine r_iS3I (Y := YX8_toldOfOne) ms_X8_59 dX8_toldOfOne_59 (c_isIn (by omega) (by omega) (by omega) (by omega) (by omega) (by omega)) (fun σ59 z59 h59 => ?_)
      obtain ⟨rfl, h59⟩ := h59
      refine r_if_eq (Y := YX8_toldOfOne) (tgt := 81) dX8_toldOfOne_62 (by decide) (fun c62 => ?_) (fun c62 => ?_) 
      · refine r_iload_n (Y := YX8_toldOfOne) dX8_toldOfOne_81 rfl ?_
        refine r_bipush (Y := YX8_toldOfOne) dX8_toldOfOne_82 ?_
        refine r_bipush (Y := YX8_toldOfOne) dX8_toldOfOne_84 ?_
        refine r_iS3I (Y := YX8_toldOfOne) ms_X8_59 dX8_toldOfOne_86 (c_isIn (by omega) (by omega) (by omega) (by omega) (by omega) (by omega)) (fun σ86 z86 h86 => ?_)
        obtain ⟨rfl, h86⟩ := h86
        refine r_if_eq (Y := YX8_toldOfOne) (tgt := 111) dX8_toldOfOne_89 (by decide) (fun c89 => ?_) (fun c89 => ?_) 
        · refine r_bipush (Y := YX8_toldOfOne) dX8_toldOfOne_111 ?_
          refine r_ireturn (Y := YX8_toldOfOne) dX8_toldOfOne_113 ?_
          unfold told1
          (repeat (first | rw [if_pos (by omega)] | rw [if_neg (by omega)]))
          exact ⟨rfl, hX, fun _ _ _ => rfl⟩
        · have kr := kd_ropes w1 (i := w - 40) (by omega) (by omega)
          refine r_aload_n (Y := YX8_toldOfOne) dX8_toldOfOne_92 rfl ?_
          refine r_getR (Y := YX8_toldOfOne) (δz := 3) fl_X8_19 dX8_toldOfOne_93 rfl rfl ?_
          refine r_getR (Y := YX8_toldOfOne) (δz := 1) fl_X8_63 dX8_toldOfOne_96 rfl rfl ?_
          refine r_getR (Y := YX8_toldOfOne) (δz := 5) fl_X8_105 dX8_toldOfOne_99 rfl rfl ?_
          refine r_iload_n (Y := YX8_toldOfOne) dX8_toldOfOne_102 rfl ?_
          refine r_bipush (Y := YX8_toldOfOne) dX8_toldOfOne_103 ?_
          refine r_isub (Y := YX8_toldOfOne) dX8_toldOfOne_105 ?_
          first | refine r_aaload (Y := YX8_toldOfOne) (δz := 2) (sz := 4) dX8_toldOfOne_106 tg_12 rfl rfl ?_ | refine r_aaload (Y := YX8_toldOfOne) (δz := 1) (sz := 30) dX8_toldOfOne_106 tg_13 rfl rfl ?_ | refine r_aaload (Y := YX8_toldOfOne) (δz := 1) (sz := 23) dX8_toldOfOne_106 tg_14 rfl rfl ?_ | refine r_aaload (Y := YX8_toldOfOne) (δz := 1) (sz := 1) dX8_toldOfOne_106 tg_15 rfl rfl ?_
          refine r_getV (Y := YX8_toldOfOne) (v := ((aR G.1.1 (w - 40)).length : Int)) (jz := 3) fl_X8_109 dX8_toldOfOne_107 ((hA.2.2.2.2.1 (w - 40) (by omega) (by omega)).1) ?_
          refine r_ireturn (Y := YX8_toldOfOne) dX8_toldOfOne_110 ?_
          unfold told1
          (repeat (first | rw [if_pos (by omega)] | rw [if_neg (by omega)]))
          exact ⟨rfl, hX, fun _ _ _ => rfl⟩
      · refine r_aload_n (Y := YX8_toldOfOne) dX8_toldOfOne_65 rfl ?_
        refine r_getR (Y := YX8_toldOfOne) (δz := 3) fl_X8_19 dX8_toldOfOne_66 rfl rfl ?_
        refine r_getR (Y := YX8_toldOfOne) (δz := 1) fl_X8_63 dX8_toldOfOne_69 rfl rfl ?_
        refine r_getR (Y := YX8_toldOfOne) (δz := 3) fl_X8_222 dX8_toldOfOne_72 rfl rfl ?_
        refine r_iload_n (Y := YX8_toldOfOne) dX8_toldOfOne_75 rfl ?_
        refine r_bipush (Y := YX8_toldOfOne) dX8_toldOfOne_76 ?_
        refine r_isub (Y := YX8_toldOfOne) dX8_toldOfOne_78 ?_
        refine r_iaV (Y := YX8_toldOfOne) (v := aB G.1.1 (w - 30)) dX8_toldOfOne_79 (hA.2.2.1 _ (by omega) (by omega)) ?_
        refine r_ireturn (Y := YX8_toldOfOne) dX8_toldOfOne_80 ?_
        unfold told1
        (repeat (first | rw [if_pos (by omega)] | rw [if_neg (by omega)]))
        exact ⟨rfl, hX, fun _ _ _ => rfl⟩
    · refine r_aload_n (Y := YX8_toldOfOne) dX8_toldOfOne_38 rfl ?_
      refine r_getR (Y := YX8_toldOfOne) (δz := 3) fl_X8_19 dX8_toldOfOne_39 rfl rfl ?_
      refine r_getR (Y := YX8_toldOfOne) (δz := 1) fl_X8_63 dX8_toldOfOne_42 rfl rfl ?_
      refine r_getR (Y := YX8_toldOfOne) (δz := 2) fl_X8_70 dX8_toldOfOne_45 rfl rfl ?_
      refine r_iload_n (Y := YX8_toldOfOne) dX8_toldOfOne_48 rfl ?_
      refine r_bipush (Y := YX8_toldOfOne) dX8_toldOfOne_49 ?_
      refine r_isub (Y := YX8_toldOfOne) dX8_toldOfOne_51 ?_
      refine r_iaV (Y := YX8_toldOfOne) (v := aS G.1.1 (w - 20)) dX8_toldOfOne_52 (hA.2.1 _ (by omega) (by omega)) ?_
      refine r_ireturn (Y := YX8_toldOfOne) dX8_toldOfOne_53 ?_
      unfold told1
      (repeat (first | rw [if_pos (by omega)] | rw [if_neg (by omega)]))
      exact ⟨rfl, hX, fun _ _ _ => rfl⟩
  · refine r_aload_n (Y := YX8_toldOfOne) dX8_toldOfOne_11 rfl ?_
    refine r_getR (Y := YX8_toldOfOne) (δz := 3) fl_X8_19 dX8_toldOfOne_12 rfl rfl ?_
    refine r_getR (Y := YX8_toldOfOne) (δz := 1) fl_X8_63 dX8_toldOfOne_15 rfl rfl ?_
    refine r_getR (Y := YX8_toldOfOne) (δz := 1) fl_X8_66 dX8_toldOfOne_18 rfl rfl ?_
    refine r_iload_n (Y := YX8_toldOfOne) dX8_toldOfOne_21 rfl ?_
    refine r_bipush (Y := YX8_toldOfOne) dX8_toldOfOne_22 ?_
    refine r_isub (Y := YX8_toldOfOne) dX8_toldOfOne_24 ?_
    refine r_iaV (Y := YX8_toldOfOne) (v := aH G.1.1 (w - 10)) dX8_toldOfOne_25 (hA.1 _ (by omega) (by omega)) ?_
    refine r_ireturn (Y := YX8_toldOfOne) dX8_toldOfOne_26 ?_
    unfold told1
    (repeat (first | rw [if_pos (by omega)] | rw [if_neg (by omega)]))
    exact ⟨rfl, hX, fun _ _ _ => rfl⟩
set_option maxRecDepth 20000 in
theorem c_X8_told {σ : ab_S} {x : Int} {G : GS} (hx : kd_ x 8 8) (hX : HX σ x G) (hG : OKG G) {w : Int} (hw1 : -2147483648 ≤ w) (hw2 : w ≤ 2147483647) : C2 YX8_told 2 σ [rf x, iv w] (PI fun σ' z => z = (toldF G w).1 ∧ HX σ' x (toldF G w).2 ∧ FX σ σ' x) := by
  obtain ⟨k1, k2, k3, k4, k5, k6, k7, k8⟩ := kd_hb hx
  obtain ⟨w1, w2, w3⟩ := kd_whole k2
  obtain ⟨a1, a2, a3, a4, a5, a6⟩ := kd_abbey w1
  have hA := hX.1.1
  have hW := hG.1.1.1
  have hWL := hG.1.1.2
  refine C2.of (by decide +kernel) (Nat.le_of_ble_eq_true rfl) ?_
  refine r_iload_n (Y := YX8_told) dX8_told_0 rfl ?_
  rcases (show w = 0 ∨ w = 1 ∨ w = 2 ∨ w = 3 ∨ w = 4 ∨ (w < 0 ∨ 4 < w) by omega) with e | e | e | e | e | e
  · subst e
    refine r_tableIn (Y := YX8_told) (off := 35) (tgt := 36) dX8_told_1 (by decide) (by decide) (by decide) (by decide) ?_
    refine r_aload_n (Y := YX8_told) dX8_told_36 rfl ?_
    refine r_getR (Y := YX8_told) (δz := 1) fl_X8_10 dX8_told_37 rfl rfl ?_
    refine r_getV (Y := YX8_told) (v := (G.2.1.length : Int)) (jz := 1) fl_X8_81 dX8_told_40 (hX.2.1.1) ?_
    refine r_ireturn (Y := YX8_told) dX8_told_43 ?_
    unfold toldF
    (repeat (first | rw [if_pos (by omega)] | rw [if_neg (by omega)]))
    exact ⟨rfl, hX, fun _ _ _ => rfl⟩
  · subst e
    refine r_tableIn (Y := YX8_told) (off := 43) (tgt := 44) dX8_told_1 (by decide) (by decide) (by decide) (by decide) ?_
    refine r_aload_n (Y := YX8_told) dX8_told_44 rfl ?_
    refine r_getR (Y := YX8_told) (δz := 3) fl_X8_19 dX8_told_45 rfl rfl ?_
    refine r_getR (Y := YX8_told) (δz := 1) fl_X8_63 dX8_told_48 rfl rfl ?_
    refine r_getV (Y := YX8_told) (v := aWr G.1.1) (jz := 6) fl_X8_73 dX8_told_51 (hA.2.2.2.2.2.1) ?_
    refine r_ireturn (Y := YX8_told) dX8_told_54 ?_
    unfold toldF
    (repeat (first | rw [if_pos (by omega)] | rw [if_neg (by omega)]))
    exact ⟨rfl, hX, fun _ _ _ => rfl⟩
  · subst e
    refine r_tableIn (Y := YX8_told) (off := 54) (tgt := 55) dX8_told_1 (by decide) (by decide) (by decide) (by decide) ?_
    refine r_aload_n (Y := YX8_told) dX8_told_55 rfl ?_
    refine r_getR (Y := YX8_told) (δz := 3) fl_X8_19 dX8_told_56 rfl rfl ?_
    refine r_getR (Y := YX8_told) (δz := 1) fl_X8_63 dX8_told_59 rfl rfl ?_
    refine r_getV (Y := YX8_told) (v := aWk G.1.1) (jz := 7) fl_X8_118 dX8_told_62 (hA.2.2.2.2.2.2) ?_
    refine r_ireturn (Y := YX8_told) dX8_told_65 ?_
    unfold toldF
    (repeat (first | rw [if_pos (by omega)] | rw [if_neg (by omega)]))
    exact ⟨rfl, hX, fun _ _ _ => rfl⟩
  · subst e
    refine r_tableIn (Y := YX8_told) (off := 65) (tgt := 66) dX8_told_1 (by decide) (by decide) (by decide) (by decide) ?_
    refine r_aload_n (Y := YX8_told) dX8_told_66 rfl ?_
    refine r_getR (Y := YX8_told) (δz := 3) fl_X8_19 dX8_told_67 rfl rfl ?_
    refine r_getR (Y := YX8_told) (δz := 24) fl_X8_153 dX8_told_70 rfl rfl ?_
    refine r_getV (Y := YX8_told) (v := (G.1.2.1.length : Int)) (jz := 2) fl_X8_162 dX8_told_73 (hX.1.2.1.1) ?_
    refine r_ireturn (Y := YX8_told) dX8_told_76 ?_
    unfold toldF
    (repeat (first | rw [if_pos (by omega)] | rw [if_neg (by omega)]))
    exact ⟨rfl, hX, fun _ _ _ => rfl⟩
  · subst e
    refine r_tableIn (Y := YX8_told) (off := 76) (tgt := 77) dX8_told_1 (by decide) (by decide) (by decide) (by decide) ?_
    refine r_aload_n (Y := YX8_told) dX8_told_77 rfl ?_
    refine r_getR (Y := YX8_told) (δz := 3) fl_X8_19 dX8_told_78 rfl rfl ?_
    refine r_getR (Y := YX8_told) (δz := 27) fl_X8_188 dX8_told_81 rfl rfl ?_
    refine r_getV (Y := YX8_told) (v := (G.1.2.2.length : Int)) (jz := 2) fl_X8_162 dX8_told_84 (hX.1.2.2.1) ?_
    refine r_ireturn (Y := YX8_told) dX8_told_87 ?_
    unfold toldF
    (repeat (first | rw [if_pos (by omega)] | rw [if_neg (by omega)]))
    exact ⟨rfl, hX, fun _ _ _ => rfl⟩
  · refine r_tableOut (Y := YX8_told) (tgt := 88) dX8_told_1 e (by decide) ?_
    refine r_aload_n (Y := YX8_told) dX8_told_88 rfl ?_
    refine r_iload_n (Y := YX8_told) dX8_told_89 rfl ?_
    refine r_iV1I (Y := YX8_told) mv_X8_219 dX8_told_90 (c_X8_toldOfOne hx hX hG hw1 hw2) (by assumption) (fun σ90 z90 h90 => ?_)
    refine r_ireturn (Y := YX8_told) dX8_told_93 ?_
    have e9 : toldF G w = told1 G w := by unfold toldF; rw [if_neg (by omega), if_neg (by omega), if_neg (by omega), if_neg (by omega), if_neg (by omega)]; rfl
    rw [e9]
    exact h90
