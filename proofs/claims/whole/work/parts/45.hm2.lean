/-! the model whole: locks, powers, faults, told -/
set_option maxRecDepth 20000 in
theorem c_X9_lock {σ : ab_S} {m : Int} {G : GS} (hm : kd_ m 9 37) (hM : HM σ m G) (hG : OKG G) {r : Int} (hr1 : -2147483648 ≤ r) (hr2 : r ≤ 2147483647) {l : Int} (hl1 : -2147483648 ≤ l) (hl2 : l ≤ 2147483647) {w : Int} (hw1 : -2147483648 ≤ w) (hw2 : w ≤ 2147483647) : C2 YX9_lock 2 σ [rf m, iv r, iv l, iv w] (PI fun σ' z => z = (lockF G r l w).1 ∧ HM σ' m (lockF G r l w).2 ∧ FY σ σ' m) := by
  obtain ⟨k1, k2, k3, k4, k5, k6, k7, k8, k9, k10, k11, k12, k13, k14, k15, k16, k17, k18, k19, k20, k21, k22, k23, k24, k25, k26⟩ := kd_model hm
  have hA := hM.1
  have hW := hG.1.1.1
  have hWL := hG.1.1.2
  refine C2.of (by decide +kernel) (Nat.le_of_ble_eq_true rfl) ?_
  refine r_iload_n (Y := YX9_lock) dX9_lock_0 rfl ?_
  refine r_iS1I (Y := YX9_lock) ms_X9_182 dX9_lock_1 (c_isRope (by omega) (by omega)) (fun σ1 z1 h1 => ?_)
  obtain ⟨rfl, h1⟩ := h1
  refine r_if_eq (Y := YX9_lock) (tgt := 25) dX9_lock_4 (by decide) (fun c4 => ?_) (fun c4 => ?_) 
  · refine r_iconst (Y := YX9_lock) dX9_lock_25 ?_
    refine r_ireturn (Y := YX9_lock) dX9_lock_26 ?_
    first
      | (exfalso; omega)
      | (unfold lockF; (repeat (first | rw [if_pos (by omega)] | rw [if_neg (by omega)])); exact ⟨rfl, hM, fun _ _ _ => rfl⟩)
  · have hRr := hA.2.2.2.2.1 r (by omega) (by omega)
    have hl8 := (hW.2.2.2.1 r (by omega) (by omega)).1
    refine r_iload_n (Y := YX9_lock) dX9_lock_7 rfl ?_
    refine r_i2l (Y := YX9_lock) dX9_lock_8 ?_
    refine r_lconst (Y := YX9_lock) (v := 0) dX9_lock_9 rfl ?_
    refine r_aload_n (Y := YX9_lock) dX9_lock_10 rfl ?_
    refine r_getR (Y := YX9_lock) (δz := 8) fl_X9_31 dX9_lock_11 rfl rfl ?_
    refine r_iload_n (Y := YX9_lock) dX9_lock_14 rfl ?_
    refine r_iaV (Y := YX9_lock) (v := ((aR G.1.1 r).length : Int)) dX9_lock_15 (hRr.1) ?_
    refine r_iconst (Y := YX9_lock) dX9_lock_16 ?_
    refine r_isub (Y := YX9_lock) dX9_lock_17 ?_
    refine r_i2l (Y := YX9_lock) dX9_lock_18 ?_
    refine r_iS3I (Y := YX9_lock) ms_X9_95 dX9_lock_19 (c_in (by omega) (by omega) (by omega) (by omega) (by omega) (by omega)) (fun σ19 z19 h19 => ?_)
    obtain ⟨rfl, h19⟩ := h19
    refine r_if_ne (Y := YX9_lock) (tgt := 27) dX9_lock_22 (by decide) (fun c22 => ?_) (fun c22 => ?_) 
    · obtain ⟨lk, hlk, _⟩ := get_some (L := aR G.1.1 r) (i := l.toNat) (by omega)
      have hlv := hRr.2 l.toNat lk hlk
      rw [show ((l.toNat : Nat) : Int) = l by omega] at hlv
      have hlg : lkG (aR G.1.1 r) l = lk := by unfold lkG; rw [List.getD_eq_getElem?_getD, hlk]; rfl
      refine r_bipush (Y := YX9_lock) dX9_lock_27 ?_
      refine r_iload_n (Y := YX9_lock) dX9_lock_29 rfl ?_
      refine r_imul (Y := YX9_lock) dX9_lock_30 ?_
      refine r_iload_n (Y := YX9_lock) dX9_lock_31 rfl ?_
      refine r_iadd (Y := YX9_lock) dX9_lock_32 ?_
      refine r_istore (Y := YX9_lock) dX9_lock_33 ?_
      refine r_iload_n (Y := YX9_lock) dX9_lock_35 rfl ?_
      refine r_if_ne (Y := YX9_lock) (tgt := 49) dX9_lock_36 (by decide) (fun c36 => ?_) (fun c36 => ?_) 
      · refine r_iload_n (Y := YX9_lock) dX9_lock_49 rfl ?_
        refine r_iconst (Y := YX9_lock) dX9_lock_50 ?_
        refine r_icmp_ne (Y := YX9_lock) (tgt := 64) dX9_lock_51 (by decide) (fun c51 => ?_) (fun c51 => ?_) 
        · refine r_iload_n (Y := YX9_lock) dX9_lock_64 rfl ?_
          refine r_iconst (Y := YX9_lock) dX9_lock_65 ?_
          refine r_icmp_ne (Y := YX9_lock) (tgt := 84) dX9_lock_66 (by decide) (fun c66 => ?_) (fun c66 => ?_) 
          · refine r_bipush (Y := YX9_lock) dX9_lock_84 ?_
            refine r_ireturn (Y := YX9_lock) dX9_lock_86 ?_
            first
              | (exfalso; omega)
              | (unfold lockF; (repeat (first | rw [if_pos (by omega)] | rw [if_neg (by omega)])); rw [hlg]; exact ⟨rfl, hM, fun _ _ _ => rfl⟩)
              | (unfold lockF; (repeat (first | rw [if_pos (by omega)] | rw [if_neg (by omega)])); exact ⟨rfl, hM, fun _ _ _ => rfl⟩)
          · refine r_aload_n (Y := YX9_lock) dX9_lock_69 rfl ?_
            refine r_getV (Y := YX9_lock) (v := aWk G.1.1) (jz := 9) fl_X9_101 dX9_lock_70 (hA.2.2.2.2.2.2) ?_
            refine r_aload_n (Y := YX9_lock) dX9_lock_73 rfl ?_
            refine r_getR (Y := YX9_lock) (δz := 7) fl_X9_28 dX9_lock_74 rfl rfl ?_
            refine r_iload (Y := YX9_lock) dX9_lock_77 rfl ?_
            refine r_iaV (Y := YX9_lock) (v := lk.2.2) dX9_lock_79 (hlv.2.2) ?_
            refine r_isub (Y := YX9_lock) dX9_lock_80 ?_
            refine r_goto (Y := YX9_lock) (tgt := 86) dX9_lock_81 (by decide) ?_
            refine r_ireturn (Y := YX9_lock) dX9_lock_86 ?_
            first
              | (exfalso; omega)
              | (unfold lockF; (repeat (first | rw [if_pos (by omega)] | rw [if_neg (by omega)])); rw [hlg]; exact ⟨rfl, hM, fun _ _ _ => rfl⟩)
              | (unfold lockF; (repeat (first | rw [if_pos (by omega)] | rw [if_neg (by omega)])); exact ⟨rfl, hM, fun _ _ _ => rfl⟩)
        · refine r_aload_n (Y := YX9_lock) dX9_lock_54 rfl ?_
          refine r_getR (Y := YX9_lock) (δz := 6) fl_X9_25 dX9_lock_55 rfl rfl ?_
          refine r_iload (Y := YX9_lock) dX9_lock_58 rfl ?_
          refine r_iaV (Y := YX9_lock) (v := lk.2.1) dX9_lock_60 (hlv.2.1) ?_
          refine r_goto (Y := YX9_lock) (tgt := 86) dX9_lock_61 (by decide) ?_
          refine r_ireturn (Y := YX9_lock) dX9_lock_86 ?_
          first
            | (exfalso; omega)
            | (unfold lockF; (repeat (first | rw [if_pos (by omega)] | rw [if_neg (by omega)])); rw [hlg]; exact ⟨rfl, hM, fun _ _ _ => rfl⟩)
            | (unfold lockF; (repeat (first | rw [if_pos (by omega)] | rw [if_neg (by omega)])); exact ⟨rfl, hM, fun _ _ _ => rfl⟩)
      · refine r_aload_n (Y := YX9_lock) dX9_lock_39 rfl ?_
        refine r_getR (Y := YX9_lock) (δz := 5) fl_X9_22 dX9_lock_40 rfl rfl ?_
        refine r_iload (Y := YX9_lock) dX9_lock_43 rfl ?_
        refine r_iaV (Y := YX9_lock) (v := lk.1) dX9_lock_45 (hlv.1) ?_
        refine r_goto (Y := YX9_lock) (tgt := 86) dX9_lock_46 (by decide) ?_
        refine r_ireturn (Y := YX9_lock) dX9_lock_86 ?_
        first
          | (exfalso; omega)
          | (unfold lockF; (repeat (first | rw [if_pos (by omega)] | rw [if_neg (by omega)])); rw [hlg]; exact ⟨rfl, hM, fun _ _ _ => rfl⟩)
          | (unfold lockF; (repeat (first | rw [if_pos (by omega)] | rw [if_neg (by omega)])); exact ⟨rfl, hM, fun _ _ _ => rfl⟩)
    · refine r_iconst (Y := YX9_lock) dX9_lock_25 ?_
      refine r_ireturn (Y := YX9_lock) dX9_lock_26 ?_
      first
        | (exfalso; omega)
        | (unfold lockF; (repeat (first | rw [if_pos (by omega)] | rw [if_neg (by omega)])); exact ⟨rfl, hM, fun _ _ _ => rfl⟩)
set_option maxRecDepth 20000 in
theorem c_X9_power {σ : ab_S} {m : Int} {G : GS} (hm : kd_ m 9 37) (hM : HM σ m G) (hG : OKG G) {r : Int} (hr1 : -2147483648 ≤ r) (hr2 : r ≤ 2147483647) : C2 YX9_power 2 σ [rf m, iv r] (PI fun σ' z => z = (powerF G r).1 ∧ HM σ' m (powerF G r).2 ∧ FY σ σ' m) := by
  obtain ⟨k1, k2, k3, k4, k5, k6, k7, k8, k9, k10, k11, k12, k13, k14, k15, k16, k17, k18, k19, k20, k21, k22, k23, k24, k25, k26⟩ := kd_model hm
  have hA := hM.1
  have hW := hG.1.1.1
  have hWL := hG.1.1.2
  refine C2.of (by decide +kernel) (Nat.le_of_ble_eq_true rfl) ?_
  refine r_aload_n (Y := YX9_power) dX9_power_0 rfl ?_
  refine r_iV0V (Y := YX9_power) mv_X9_159 dX9_power_1 (c_layNow hm hA hW) (by assumption) (fun σ1 h1 => ?_)
  obtain ⟨t1, t2⟩ := h1
  have hM2 := hM.fm t2
  refine r_iload_n (Y := YX9_power) dX9_power_4 rfl ?_
  refine r_iS1I (Y := YX9_power) ms_X9_182 dX9_power_5 (c_isRope (by omega) (by omega)) (fun σ5 z5 h5 => ?_)
  obtain ⟨rfl, h5⟩ := h5
  refine r_if_eq (Y := YX9_power) (tgt := 19) dX9_power_8 (by decide) (fun c8 => ?_) (fun c8 => ?_) 
  · refine r_iconst (Y := YX9_power) dX9_power_19 ?_
    refine r_ireturn (Y := YX9_power) dX9_power_20 ?_
    first
      | (exfalso; omega)
      | (unfold powerF; (repeat (first | rw [if_pos (by omega)] | rw [if_neg (by omega)])); exact ⟨rfl, hM2, t2.fy⟩)
  · refine r_aload_n (Y := YX9_power) dX9_power_11 rfl ?_
    refine r_iload_n (Y := YX9_power) dX9_power_12 rfl ?_
    refine r_iV1I (Y := YX9_power) mv_X9_114 dX9_power_13 (c_X9_powerOf hm (by omega) (by omega) t1 hW) (by assumption) (fun σ13 z13 h13 => ?_)
    obtain ⟨rfl, rfl⟩ := h13
    refine r_goto (Y := YX9_power) (tgt := 20) dX9_power_16 (by decide) ?_
    refine r_ireturn (Y := YX9_power) dX9_power_20 ?_
    first
      | (exfalso; omega)
      | (unfold powerF; (repeat (first | rw [if_pos (by omega)] | rw [if_neg (by omega)])); exact ⟨rfl, hM2, t2.fy⟩)
set_option maxRecDepth 20000 in
theorem c_X9_bears {σ : ab_S} {m : Int} {G : GS} (hm : kd_ m 9 37) (hM : HM σ m G) (hG : OKG G)  : C2 YX9_bears 2 σ [rf m] (PI fun σ' z => z = (bearsF G).1 ∧ HM σ' m (bearsF G).2 ∧ FY σ σ' m) := by
  obtain ⟨k1, k2, k3, k4, k5, k6, k7, k8, k9, k10, k11, k12, k13, k14, k15, k16, k17, k18, k19, k20, k21, k22, k23, k24, k25, k26⟩ := kd_model hm
  have hA := hM.1
  have hW := hG.1.1.1
  have hWL := hG.1.1.2
  refine C2.of (by decide +kernel) (Nat.le_of_ble_eq_true rfl) ?_
  refine r_aload_n (Y := YX9_bears) dX9_bears_0 rfl ?_
  refine r_iV0V (Y := YX9_bears) mv_X9_159 dX9_bears_1 (c_layNow hm hA hW) (by assumption) (fun σ1 h1 => ?_)
  obtain ⟨t1, t2⟩ := h1
  have hM2 := hM.fm t2
  refine r_aload_n (Y := YX9_bears) dX9_bears_4 rfl ?_
  refine r_iV0I (Y := YX9_bears) mv_X9_185 dX9_bears_5 (c_X9_borne hm t1 hW) (by assumption) (fun σ5 z5 h5 => ?_)
  obtain ⟨rfl, rfl⟩ := h5
  refine r_ireturn (Y := YX9_bears) dX9_bears_8 ?_
  exact ⟨rfl, hM2, t2.fy⟩
theorem tmod10 {w : Int} (h : 0 ≤ w) : w.tmod 10 = w % 10 := Int.tmod_eq_emod_of_nonneg h
set_option maxRecDepth 20000 in
theorem c_X9_told {σ : ab_S} {m : Int} {G : GS} (hm : kd_ m 9 37) (hM : HM σ m G) (hG : OKG G) {w : Int} (hw1 : -2147483648 ≤ w) (hw2 : w ≤ 2147483647) : C2 YX9_told 2 σ [rf m, iv w] (PI fun σ' z => z = (toldF G w).1 ∧ HM σ' m (toldF G w).2 ∧ FY σ σ' m) := by
  obtain ⟨k1, k2, k3, k4, k5, k6, k7, k8, k9, k10, k11, k12, k13, k14, k15, k16, k17, k18, k19, k20, k21, k22, k23, k24, k25, k26⟩ := kd_model hm
  have hA := hM.1
  have hW := hG.1.1.1
  have hWL := hG.1.1.2
  refine C2.of (by decide +kernel) (Nat.le_of_ble_eq_true rfl) ?_
  refine r_iload_n (Y := YX9_told) dX9_told_0 rfl ?_
  refine r_bipush (Y := YX9_told) dX9_told_1 ?_
  refine r_irem (Y := YX9_told) dX9_told_3 ?_
  refine r_istore_n (Y := YX9_told) dX9_told_4 ?_
  refine r_iload_n (Y := YX9_told) dX9_told_5 rfl ?_
  refine r_i2l (Y := YX9_told) dX9_told_6 ?_
  refine r_ldc2 (Y := YX9_told) (z := 10) wc_X9_275 dX9_told_7 (by decide) ?_
  refine r_ldc2 (Y := YX9_told) (z := 39) wc_X9_277 dX9_told_10 (by decide) ?_
  refine r_iS3I (Y := YX9_told) ms_X9_95 dX9_told_13 (c_in (by omega) (by omega) (by omega) (by omega) (by omega) (by omega)) (fun σ13 z13 h13 => ?_)
  obtain ⟨rfl, h13⟩ := h13
  refine r_if_eq (Y := YX9_told) (tgt := 68) dX9_told_16 (by decide) (fun c16 => ?_) (fun c16 => ?_) 
  · refine r_iload_n (Y := YX9_told) dX9_told_68 rfl ?_
    refine r_i2l (Y := YX9_told) dX9_told_69 ?_
    refine r_ldc2 (Y := YX9_told) (z := 40) wc_X9_122 dX9_told_70 (by decide) ?_
    refine r_ldc2 (Y := YX9_told) (z := 43) wc_X9_279 dX9_told_73 (by decide) ?_
    refine r_iS3I (Y := YX9_told) ms_X9_95 dX9_told_76 (c_in (by omega) (by omega) (by omega) (by omega) (by omega) (by omega)) (fun σ76 z76 h76 => ?_)
    obtain ⟨rfl, h76⟩ := h76
    refine r_if_eq (Y := YX9_told) (tgt := 89) dX9_told_79 (by decide) (fun c79 => ?_) (fun c79 => ?_) 
    · refine r_iload_n (Y := YX9_told) dX9_told_89 rfl ?_
      refine r_if_ne (Y := YX9_told) (tgt := 100) dX9_told_90 (by decide) (fun c90 => ?_) (fun c90 => ?_) 
      · refine r_iload_n (Y := YX9_told) dX9_told_100 rfl ?_
        refine r_iconst (Y := YX9_told) dX9_told_101 ?_
        refine r_icmp_ne (Y := YX9_told) (tgt := 112) dX9_told_102 (by decide) (fun c102 => ?_) (fun c102 => ?_) 
        · refine r_iload_n (Y := YX9_told) dX9_told_112 rfl ?_
          refine r_iconst (Y := YX9_told) dX9_told_113 ?_
          refine r_icmp_ne (Y := YX9_told) (tgt := 124) dX9_told_114 (by decide) (fun c114 => ?_) (fun c114 => ?_) 
          · refine r_iload_n (Y := YX9_told) dX9_told_124 rfl ?_
            refine r_iconst (Y := YX9_told) dX9_told_125 ?_
            refine r_icmp_ne (Y := YX9_told) (tgt := 136) dX9_told_126 (by decide) (fun c126 => ?_) (fun c126 => ?_) 
            · refine r_iload_n (Y := YX9_told) dX9_told_136 rfl ?_
              refine r_iconst (Y := YX9_told) dX9_told_137 ?_
              refine r_icmp_ne (Y := YX9_told) (tgt := 148) dX9_told_138 (by decide) (fun c138 => ?_) (fun c138 => ?_) 
              · refine r_bipush (Y := YX9_told) dX9_told_148 ?_
                refine r_ireturn (Y := YX9_told) dX9_told_150 ?_
                first
                  | (exfalso; omega)
                  | (unfold toldF; (repeat (first | rw [if_pos (by omega)] | rw [if_neg (by omega)])); exact ⟨rfl, hM, fun _ _ _ => rfl⟩)
              · refine r_aload_n (Y := YX9_told) dX9_told_141 rfl ?_
                refine r_getV (Y := YX9_told) (v := (G.1.2.2.length : Int)) (jz := 15) fl_X9_234 dX9_told_142 (hM.2.2.1.1) ?_
                refine r_goto (Y := YX9_told) (tgt := 150) dX9_told_145 (by decide) ?_
                refine r_ireturn (Y := YX9_told) dX9_told_150 ?_
                first
                  | (exfalso; omega)
                  | (unfold toldF; (repeat (first | rw [if_pos (by omega)] | rw [if_neg (by omega)])); exact ⟨rfl, hM, fun _ _ _ => rfl⟩)
            · refine r_aload_n (Y := YX9_told) dX9_told_129 rfl ?_
              refine r_getV (Y := YX9_told) (v := (G.1.2.1.length : Int)) (jz := 12) fl_X9_206 dX9_told_130 (hM.2.1.1) ?_
              refine r_goto (Y := YX9_told) (tgt := 150) dX9_told_133 (by decide) ?_
              refine r_ireturn (Y := YX9_told) dX9_told_150 ?_
              first
                | (exfalso; omega)
                | (unfold toldF; (repeat (first | rw [if_pos (by omega)] | rw [if_neg (by omega)])); exact ⟨rfl, hM, fun _ _ _ => rfl⟩)
          · refine r_aload_n (Y := YX9_told) dX9_told_117 rfl ?_
            refine r_getV (Y := YX9_told) (v := aWk G.1.1) (jz := 9) fl_X9_101 dX9_told_118 (hA.2.2.2.2.2.2) ?_
            refine r_goto (Y := YX9_told) (tgt := 150) dX9_told_121 (by decide) ?_
            refine r_ireturn (Y := YX9_told) dX9_told_150 ?_
            first
              | (exfalso; omega)
              | (unfold toldF; (repeat (first | rw [if_pos (by omega)] | rw [if_neg (by omega)])); exact ⟨rfl, hM, fun _ _ _ => rfl⟩)
        · refine r_aload_n (Y := YX9_told) dX9_told_105 rfl ?_
          refine r_getV (Y := YX9_told) (v := aWr G.1.1) (jz := 8) fl_X9_89 dX9_told_106 (hA.2.2.2.2.2.1) ?_
          refine r_goto (Y := YX9_told) (tgt := 150) dX9_told_109 (by decide) ?_
          refine r_ireturn (Y := YX9_told) dX9_told_150 ?_
          first
            | (exfalso; omega)
            | (unfold toldF; (repeat (first | rw [if_pos (by omega)] | rw [if_neg (by omega)])); exact ⟨rfl, hM, fun _ _ _ => rfl⟩)
      · refine r_aload_n (Y := YX9_told) dX9_told_93 rfl ?_
        refine r_getV (Y := YX9_told) (v := (G.2.1.length : Int)) (jz := 25) fl_X9_130 dX9_told_94 (hM.2.2.2.1.1) ?_
        refine r_goto (Y := YX9_told) (tgt := 150) dX9_told_97 (by decide) ?_
        refine r_ireturn (Y := YX9_told) dX9_told_150 ?_
        first
          | (exfalso; omega)
          | (unfold toldF; (repeat (first | rw [if_pos (by omega)] | rw [if_neg (by omega)])); exact ⟨rfl, hM, fun _ _ _ => rfl⟩)
    · rw [tmod10 (show 0 ≤ w by omega)]
      refine r_aload_n (Y := YX9_told) dX9_told_82 rfl ?_
      refine r_getR (Y := YX9_told) (δz := 8) fl_X9_31 dX9_told_83 rfl rfl ?_
      refine r_iload_n (Y := YX9_told) dX9_told_86 rfl ?_
      refine r_iaV (Y := YX9_told) (v := ((aR G.1.1 (w - 40)).length : Int)) dX9_told_87 ((by rw [show w % 10 = w - 40 by omega]; exact (hA.2.2.2.2.1 _ (by omega) (by omega)).1)) ?_
      refine r_ireturn (Y := YX9_told) dX9_told_88 ?_
      first
        | (exfalso; omega)
        | (unfold toldF; (repeat (first | rw [if_pos (by omega)] | rw [if_neg (by omega)])); exact ⟨rfl, hM, fun _ _ _ => rfl⟩)
  · rw [tmod10 (show 0 ≤ w by omega)]
    refine r_iload_n (Y := YX9_told) dX9_told_19 rfl ?_
    refine r_iS1I (Y := YX9_told) ms_X9_118 dX9_told_20 (c_isMonk (by omega) (by omega)) (fun σ20 z20 h20 => ?_)
    obtain ⟨rfl, h20⟩ := h20
    refine r_if_ne (Y := YX9_told) (tgt := 31) dX9_told_23 (by decide) (fun c23 => ?_) (fun c23 => ?_) 
    · refine r_iload_n (Y := YX9_told) dX9_told_31 rfl ?_
      refine r_bipush (Y := YX9_told) dX9_told_32 ?_
      refine r_icmp_ge (Y := YX9_told) (tgt := 46) dX9_told_34 (by decide) (fun c34 => ?_) (fun c34 => ?_) 
      · refine r_iload_n (Y := YX9_told) dX9_told_46 rfl ?_
        refine r_bipush (Y := YX9_told) dX9_told_47 ?_
        refine r_icmp_ge (Y := YX9_told) (tgt := 61) dX9_told_49 (by decide) (fun c49 => ?_) (fun c49 => ?_) 
        · refine r_aload_n (Y := YX9_told) dX9_told_61 rfl ?_
          refine r_getR (Y := YX9_told) (δz := 3) fl_X9_16 dX9_told_62 rfl rfl ?_
          refine r_iload_n (Y := YX9_told) dX9_told_65 rfl ?_
          refine r_iaV (Y := YX9_told) (v := aB G.1.1 (w - 30)) dX9_told_66 ((by rw [show w % 10 = w - 30 by omega]; exact hA.2.2.1 _ (by omega) (by omega))) ?_
          refine r_ireturn (Y := YX9_told) dX9_told_67 ?_
          first
            | (exfalso; omega)
            | (unfold toldF; (repeat (first | rw [if_pos (by omega)] | rw [if_neg (by omega)])); exact ⟨rfl, hM, fun _ _ _ => rfl⟩)
        · refine r_aload_n (Y := YX9_told) dX9_told_52 rfl ?_
          refine r_getR (Y := YX9_told) (δz := 2) fl_X9_13 dX9_told_53 rfl rfl ?_
          refine r_iload_n (Y := YX9_told) dX9_told_56 rfl ?_
          refine r_iaV (Y := YX9_told) (v := aS G.1.1 (w - 20)) dX9_told_57 ((by rw [show w % 10 = w - 20 by omega]; exact hA.2.1 _ (by omega) (by omega))) ?_
          refine r_goto (Y := YX9_told) (tgt := 67) dX9_told_58 (by decide) ?_
          refine r_ireturn (Y := YX9_told) dX9_told_67 ?_
          first
            | (exfalso; omega)
            | (unfold toldF; (repeat (first | rw [if_pos (by omega)] | rw [if_neg (by omega)])); exact ⟨rfl, hM, fun _ _ _ => rfl⟩)
      · refine r_aload_n (Y := YX9_told) dX9_told_37 rfl ?_
        refine r_getR (Y := YX9_told) (δz := 1) fl_X9_7 dX9_told_38 rfl rfl ?_
        refine r_iload_n (Y := YX9_told) dX9_told_41 rfl ?_
        refine r_iaV (Y := YX9_told) (v := aH G.1.1 (w - 10)) dX9_told_42 ((by rw [show w % 10 = w - 10 by omega]; exact hA.1 _ (by omega) (by omega))) ?_
        refine r_goto (Y := YX9_told) (tgt := 67) dX9_told_43 (by decide) ?_
        refine r_ireturn (Y := YX9_told) dX9_told_67 ?_
        first
          | (exfalso; omega)
          | (unfold toldF; (repeat (first | rw [if_pos (by omega)] | rw [if_neg (by omega)])); exact ⟨rfl, hM, fun _ _ _ => rfl⟩)
    · refine r_bipush (Y := YX9_told) dX9_told_26 ?_
      refine r_goto (Y := YX9_told) (tgt := 67) dX9_told_28 (by decide) ?_
      refine r_ireturn (Y := YX9_told) dX9_told_67 ?_
      first
        | (exfalso; omega)
        | (unfold toldF; (repeat (first | rw [if_pos (by omega)] | rw [if_neg (by omega)])); exact ⟨rfl, hM, fun _ _ _ => rfl⟩)
set_option maxRecDepth 20000 in
theorem c_X9_fault {σ : ab_S} {m : Int} {xs : List Int} (hm : kd_ m 9 37) (hP : HP σ m xs) (hD : WD xs) : C2 YX9_fault 1 σ [rf m] (PI fun σ' z => σ' = σ ∧ z = fault xs) := by
  obtain ⟨k1, k2, k3, k4, k5, k6, k7, k8, k9, k10, k11, k12, k13, k14, k15, k16, k17, k18, k19, k20, k21, k22, k23, k24, k25, k26⟩ := kd_model hm
  have hL := hD.1
  refine C2.of (by decide +kernel) (Nat.le_of_ble_eq_true rfl) ?_
  refine r_iconst (Y := YX9_fault) dX9_fault_0 ?_
  refine r_istore_n (Y := YX9_fault) dX9_fault_1 ?_
  refine r_iconst (Y := YX9_fault) dX9_fault_2 ?_
  refine r_istore_n (Y := YX9_fault) dX9_fault_3 ?_
  suffices hloop : ∀ (rest : List Int) (i : Nat) (e : Int), xs.drop i = rest → i ≤ xs.length → 0 ≤ e → e ≤ 2 → fltL e i rest = fault xs → R2 YX9_fault 1 σ 4 [some (rf m), some (iv e), some (iv i), none] [] (PI fun σ' z => σ' = σ ∧ z = fault xs) from
    R2.weak (by repeat first | exact trivial | refine And.intro rfl ?_) (hloop xs 0 0 rfl (by omega) (by omega) (by omega) rfl)
  intro rest
  induction rest with
  | nil =>
    intro i e g1 g2 g3 g4 g5
    have g6 : xs.length ≤ i := List.drop_eq_nil_iff.mp g1
    have g7 : (if e = 0 then -6 else (i : Int)) = fault xs := g5
    refine r_iload_n (Y := YX9_fault) dX9_fault_4 rfl ?_
    refine r_aload_n (Y := YX9_fault) dX9_fault_5 rfl ?_
    refine r_getV (Y := YX9_fault) (v := (xs.length : Int)) (jz := 25) fl_X9_130 dX9_fault_6 (hP.1) ?_
    refine r_icmp_ge (Y := YX9_fault) (tgt := 125) dX9_fault_9 (by decide) (fun c9 => ?_) (fun c9 => absurd c9 (by omega)) 
    refine r_iload_n (Y := YX9_fault) dX9_fault_125 rfl ?_
    refine r_if_ne (Y := YX9_fault) (tgt := 134) dX9_fault_126 (by decide) (fun c126 => ?_) (fun c126 => ?_) 
    · refine r_aload_n (Y := YX9_fault) dX9_fault_134 rfl ?_
      refine r_getV (Y := YX9_fault) (v := (xs.length : Int)) (jz := 25) fl_X9_130 dX9_fault_135 (hP.1) ?_
      refine r_ireturn (Y := YX9_fault) dX9_fault_138 ?_
      exact ⟨rfl, by rw [← g7]; first | rw [if_pos (by omega)] | (rw [if_neg (by omega)]; omega)⟩
    · refine r_bipush (Y := YX9_fault) dX9_fault_129 ?_
      refine r_goto (Y := YX9_fault) (tgt := 138) dX9_fault_131 (by decide) ?_
      refine r_ireturn (Y := YX9_fault) dX9_fault_138 ?_
      exact ⟨rfl, by rw [← g7]; first | rw [if_pos (by omega)] | (rw [if_neg (by omega)]; omega)⟩
  | cons c rest ih =>
    intro i e g1 g2 g3 g4 g5
    have g6 : i < xs.length := by
      apply Decidable.byContradiction
      intro h
      rw [List.drop_eq_nil_of_le (by omega)] at g1
      cases g1
    have g7 : xs[i]? = some c := by
      have := congrArg List.head? g1
      rwa [List.head?_drop] at this
    have g8 : xs.drop (i + 1) = rest := by
      have := congrArg List.tail g1
      rwa [List.tail_drop] at this
    have hc := hD.2 c (List.mem_of_getElem? g7)
    have g9 : (if beh e c = 3 then (i : Int) else fltL (beh e c) ((i : Int) + 1) rest) = fault xs := g5
    have ih := ih (i + 1) (beh e c) g8 (by omega) (beh_bd e c).1
    refine r_iload_n (Y := YX9_fault) dX9_fault_4 rfl ?_
    refine r_aload_n (Y := YX9_fault) dX9_fault_5 rfl ?_
    refine r_getV (Y := YX9_fault) (v := (xs.length : Int)) (jz := 25) fl_X9_130 dX9_fault_6 (hP.1) ?_
    refine r_icmp_ge (Y := YX9_fault) (tgt := 125) dX9_fault_9 (by decide) (fun c9 => absurd c9 (by omega)) (fun c9 => ?_) 
    refine r_aload_n (Y := YX9_fault) dX9_fault_12 rfl ?_
    refine r_getR (Y := YX9_fault) (δz := 20) fl_X9_67 dX9_fault_13 rfl rfl ?_
    refine r_iload_n (Y := YX9_fault) dX9_fault_16 rfl ?_
    refine r_iaV (Y := YX9_fault) (v := c) dX9_fault_17 (hP.2 i c g7) ?_
    refine r_istore_n (Y := YX9_fault) dX9_fault_18 ?_
    refine r_iload_n (Y := YX9_fault) dX9_fault_19 rfl ?_
    refine r_if_ne (Y := YX9_fault) (tgt := 42) dX9_fault_20 (by decide) (fun c20 => ?_) (fun c20 => ?_) 
    · refine r_iload_n (Y := YX9_fault) dX9_fault_42 rfl ?_
      refine r_iconst (Y := YX9_fault) dX9_fault_43 ?_
      refine r_icmp_ne (Y := YX9_fault) (tgt := 64) dX9_fault_44 (by decide) (fun c44 => ?_) (fun c44 => ?_) 
      · refine r_iload_n (Y := YX9_fault) dX9_fault_64 rfl ?_
        refine r_iconst (Y := YX9_fault) dX9_fault_65 ?_
        refine r_icmp_ne (Y := YX9_fault) (tgt := 83) dX9_fault_66 (by decide) (fun c66 => ?_) (fun c66 => ?_) 
        · refine r_iload_n (Y := YX9_fault) dX9_fault_83 rfl ?_
          refine r_iconst (Y := YX9_fault) dX9_fault_84 ?_
          refine r_icmp_ne (Y := YX9_fault) (tgt := 107) dX9_fault_85 (by decide) (fun c85 => ?_) (fun c85 => ?_) 
          · refine r_iload_n (Y := YX9_fault) dX9_fault_107 rfl ?_
            refine r_if_ne (Y := YX9_fault) (tgt := 117) dX9_fault_108 (by decide) (fun c108 => ?_) (fun c108 => ?_) 
            · refine r_iload_n (Y := YX9_fault) dX9_fault_117 rfl ?_
              refine r_ireturn (Y := YX9_fault) dX9_fault_118 ?_
              first
                | (exfalso; omega)
                | (have hb : beh e c = 3 := by (unfold beh; (repeat (first | rw [if_pos (by omega)] | rw [if_neg (by omega)])))
                   rw [if_pos hb] at g9
                   exact ⟨rfl, g9⟩)
            · refine r_iload_n (Y := YX9_fault) dX9_fault_111 rfl ?_
              refine r_bipush (Y := YX9_fault) dX9_fault_112 ?_
              refine r_icmp_eq (Y := YX9_fault) (tgt := 119) dX9_fault_114 (by decide) (fun c114 => ?_) (fun c114 => ?_) 
              · refine r_iinc (Y := YX9_fault) dX9_fault_119 rfl ?_
                refine r_goto (Y := YX9_fault) (tgt := 4) dX9_fault_122 (by decide) ?_
                first
                  | (exfalso; omega)
                  | (have he0 : e = 0 ∧ c = 46 := by omega
                     obtain ⟨he0, _⟩ := he0
                     subst he0
                     have hb : beh 0 c = 0 := by (unfold beh; (repeat (first | rw [if_pos (by omega)] | rw [if_neg (by omega)])))
                     have ih9 := ih (by rw [hb]; omega) (by rw [if_neg (by rw [hb]; omega)] at g9; exact g9)
                     rw [hb] at ih9
                     exact R2.weak (by repeat first | exact trivial | refine And.intro rfl ?_) ih9)
                  | (have hb : beh e c = 0 := by (unfold beh; (repeat (first | rw [if_pos (by omega)] | rw [if_neg (by omega)])))
                     have ih9 := ih (by rw [hb]; omega) (by rw [if_neg (by rw [hb]; omega)] at g9; exact g9)
                     rw [hb] at ih9
                     exact R2.weak (by repeat first | exact trivial | refine And.intro rfl ?_) ih9)
                  | (have hb : beh e c = 1 := by (unfold beh; (repeat (first | rw [if_pos (by omega)] | rw [if_neg (by omega)])))
                     have ih9 := ih (by rw [hb]; omega) (by rw [if_neg (by rw [hb]; omega)] at g9; exact g9)
                     rw [hb] at ih9
                     exact R2.weak (by repeat first | exact trivial | refine And.intro rfl ?_) ih9)
                  | (have hb : beh e c = 2 := by (unfold beh; (repeat (first | rw [if_pos (by omega)] | rw [if_neg (by omega)])))
                     have ih9 := ih (by rw [hb]; omega) (by rw [if_neg (by rw [hb]; omega)] at g9; exact g9)
                     rw [hb] at ih9
                     exact R2.weak (by repeat first | exact trivial | refine And.intro rfl ?_) ih9)
              · refine r_iload_n (Y := YX9_fault) dX9_fault_117 rfl ?_
                refine r_ireturn (Y := YX9_fault) dX9_fault_118 ?_
                first
                  | (exfalso; omega)
                  | (have hb : beh e c = 3 := by (unfold beh; (repeat (first | rw [if_pos (by omega)] | rw [if_neg (by omega)])))
                     rw [if_pos hb] at g9
                     exact ⟨rfl, g9⟩)
          · refine r_iload_n (Y := YX9_fault) dX9_fault_88 rfl ?_
            refine r_i2l (Y := YX9_fault) dX9_fault_89 ?_
            refine r_ldc2 (Y := YX9_fault) (z := 49) wc_X9_141 dX9_fault_90 (by decide) ?_
            refine r_ldc2 (Y := YX9_fault) (z := 57) wc_X9_143 dX9_fault_93 (by decide) ?_
            refine r_iS3I (Y := YX9_fault) ms_X9_95 dX9_fault_96 (c_in (by omega) (by omega) (by omega) (by omega) (by omega) (by omega)) (fun σ96 z96 h96 => ?_)
            obtain ⟨rfl, h96⟩ := h96
            refine r_if_eq (Y := YX9_fault) (tgt := 107) dX9_fault_99 (by decide) (fun c99 => ?_) (fun c99 => ?_) 
            · refine r_iload_n (Y := YX9_fault) dX9_fault_107 rfl ?_
              refine r_if_ne (Y := YX9_fault) (tgt := 117) dX9_fault_108 (by decide) (fun c108 => ?_) (fun c108 => ?_) 
              · refine r_iload_n (Y := YX9_fault) dX9_fault_117 rfl ?_
                refine r_ireturn (Y := YX9_fault) dX9_fault_118 ?_
                first
                  | (exfalso; omega)
                  | (have hb : beh e c = 3 := by (unfold beh; (repeat (first | rw [if_pos (by omega)] | rw [if_neg (by omega)])))
                     rw [if_pos hb] at g9
                     exact ⟨rfl, g9⟩)
              · refine r_iload_n (Y := YX9_fault) dX9_fault_111 rfl ?_
                refine r_bipush (Y := YX9_fault) dX9_fault_112 ?_
                refine r_icmp_eq (Y := YX9_fault) (tgt := 119) dX9_fault_114 (by decide) (fun c114 => ?_) (fun c114 => ?_) 
                · refine r_iinc (Y := YX9_fault) dX9_fault_119 rfl ?_
                  refine r_goto (Y := YX9_fault) (tgt := 4) dX9_fault_122 (by decide) ?_
                  first
                    | (exfalso; omega)
                    | (have he0 : e = 0 ∧ c = 46 := by omega
                       obtain ⟨he0, _⟩ := he0
                       subst he0
                       have hb : beh 0 c = 0 := by (unfold beh; (repeat (first | rw [if_pos (by omega)] | rw [if_neg (by omega)])))
                       have ih9 := ih (by rw [hb]; omega) (by rw [if_neg (by rw [hb]; omega)] at g9; exact g9)
                       rw [hb] at ih9
                       exact R2.weak (by repeat first | exact trivial | refine And.intro rfl ?_) ih9)
                    | (have hb : beh e c = 0 := by (unfold beh; (repeat (first | rw [if_pos (by omega)] | rw [if_neg (by omega)])))
                       have ih9 := ih (by rw [hb]; omega) (by rw [if_neg (by rw [hb]; omega)] at g9; exact g9)
                       rw [hb] at ih9
                       exact R2.weak (by repeat first | exact trivial | refine And.intro rfl ?_) ih9)
                    | (have hb : beh e c = 1 := by (unfold beh; (repeat (first | rw [if_pos (by omega)] | rw [if_neg (by omega)])))
                       have ih9 := ih (by rw [hb]; omega) (by rw [if_neg (by rw [hb]; omega)] at g9; exact g9)
                       rw [hb] at ih9
                       exact R2.weak (by repeat first | exact trivial | refine And.intro rfl ?_) ih9)
                    | (have hb : beh e c = 2 := by (unfold beh; (repeat (first | rw [if_pos (by omega)] | rw [if_neg (by omega)])))
                       have ih9 := ih (by rw [hb]; omega) (by rw [if_neg (by rw [hb]; omega)] at g9; exact g9)
                       rw [hb] at ih9
                       exact R2.weak (by repeat first | exact trivial | refine And.intro rfl ?_) ih9)
                · refine r_iload_n (Y := YX9_fault) dX9_fault_117 rfl ?_
                  refine r_ireturn (Y := YX9_fault) dX9_fault_118 ?_
                  first
                    | (exfalso; omega)
                    | (have hb : beh e c = 3 := by (unfold beh; (repeat (first | rw [if_pos (by omega)] | rw [if_neg (by omega)])))
                       rw [if_pos hb] at g9
                       exact ⟨rfl, g9⟩)
            · refine r_iconst (Y := YX9_fault) dX9_fault_102 ?_
              refine r_istore_n (Y := YX9_fault) dX9_fault_103 ?_
              refine r_goto (Y := YX9_fault) (tgt := 119) dX9_fault_104 (by decide) ?_
              refine r_iinc (Y := YX9_fault) dX9_fault_119 rfl ?_
              refine r_goto (Y := YX9_fault) (tgt := 4) dX9_fault_122 (by decide) ?_
              first
                | (exfalso; omega)
                | (have he0 : e = 0 ∧ c = 46 := by omega
                   obtain ⟨he0, _⟩ := he0
                   subst he0
                   have hb : beh 0 c = 0 := by (unfold beh; (repeat (first | rw [if_pos (by omega)] | rw [if_neg (by omega)])))
                   have ih9 := ih (by rw [hb]; omega) (by rw [if_neg (by rw [hb]; omega)] at g9; exact g9)
                   rw [hb] at ih9
                   exact R2.weak (by repeat first | exact trivial | refine And.intro rfl ?_) ih9)
                | (have hb : beh e c = 0 := by (unfold beh; (repeat (first | rw [if_pos (by omega)] | rw [if_neg (by omega)])))
                   have ih9 := ih (by rw [hb]; omega) (by rw [if_neg (by rw [hb]; omega)] at g9; exact g9)
                   rw [hb] at ih9
                   exact R2.weak (by repeat first | exact trivial | refine And.intro rfl ?_) ih9)
                | (have hb : beh e c = 1 := by (unfold beh; (repeat (first | rw [if_pos (by omega)] | rw [if_neg (by omega)])))
                   have ih9 := ih (by rw [hb]; omega) (by rw [if_neg (by rw [hb]; omega)] at g9; exact g9)
                   rw [hb] at ih9
                   exact R2.weak (by repeat first | exact trivial | refine And.intro rfl ?_) ih9)
                | (have hb : beh e c = 2 := by (unfold beh; (repeat (first | rw [if_pos (by omega)] | rw [if_neg (by omega)])))
                   have ih9 := ih (by rw [hb]; omega) (by rw [if_neg (by rw [hb]; omega)] at g9; exact g9)
                   rw [hb] at ih9
                   exact R2.weak (by repeat first | exact trivial | refine And.intro rfl ?_) ih9)
        · refine r_iload_n (Y := YX9_fault) dX9_fault_69 rfl ?_
          refine r_i2l (Y := YX9_fault) dX9_fault_70 ?_
          refine r_ldc2 (Y := YX9_fault) (z := 48) wc_X9_137 dX9_fault_71 (by decide) ?_
          refine r_ldc2 (Y := YX9_fault) (z := 51) wc_X9_139 dX9_fault_74 (by decide) ?_
          refine r_iS3I (Y := YX9_fault) ms_X9_95 dX9_fault_77 (c_in (by omega) (by omega) (by omega) (by omega) (by omega) (by omega)) (fun σ77 z77 h77 => ?_)
          obtain ⟨rfl, h77⟩ := h77
          refine r_if_ne (Y := YX9_fault) (tgt := 102) dX9_fault_80 (by decide) (fun c80 => ?_) (fun c80 => ?_) 
          · refine r_iconst (Y := YX9_fault) dX9_fault_102 ?_
            refine r_istore_n (Y := YX9_fault) dX9_fault_103 ?_
            refine r_goto (Y := YX9_fault) (tgt := 119) dX9_fault_104 (by decide) ?_
            refine r_iinc (Y := YX9_fault) dX9_fault_119 rfl ?_
            refine r_goto (Y := YX9_fault) (tgt := 4) dX9_fault_122 (by decide) ?_
            first
              | (exfalso; omega)
              | (have he0 : e = 0 ∧ c = 46 := by omega
                 obtain ⟨he0, _⟩ := he0
                 subst he0
                 have hb : beh 0 c = 0 := by (unfold beh; (repeat (first | rw [if_pos (by omega)] | rw [if_neg (by omega)])))
                 have ih9 := ih (by rw [hb]; omega) (by rw [if_neg (by rw [hb]; omega)] at g9; exact g9)
                 rw [hb] at ih9
                 exact R2.weak (by repeat first | exact trivial | refine And.intro rfl ?_) ih9)
              | (have hb : beh e c = 0 := by (unfold beh; (repeat (first | rw [if_pos (by omega)] | rw [if_neg (by omega)])))
                 have ih9 := ih (by rw [hb]; omega) (by rw [if_neg (by rw [hb]; omega)] at g9; exact g9)
                 rw [hb] at ih9
                 exact R2.weak (by repeat first | exact trivial | refine And.intro rfl ?_) ih9)
              | (have hb : beh e c = 1 := by (unfold beh; (repeat (first | rw [if_pos (by omega)] | rw [if_neg (by omega)])))
                 have ih9 := ih (by rw [hb]; omega) (by rw [if_neg (by rw [hb]; omega)] at g9; exact g9)
                 rw [hb] at ih9
                 exact R2.weak (by repeat first | exact trivial | refine And.intro rfl ?_) ih9)
              | (have hb : beh e c = 2 := by (unfold beh; (repeat (first | rw [if_pos (by omega)] | rw [if_neg (by omega)])))
                 have ih9 := ih (by rw [hb]; omega) (by rw [if_neg (by rw [hb]; omega)] at g9; exact g9)
                 rw [hb] at ih9
                 exact R2.weak (by repeat first | exact trivial | refine And.intro rfl ?_) ih9)
          · refine r_iload_n (Y := YX9_fault) dX9_fault_83 rfl ?_
            refine r_iconst (Y := YX9_fault) dX9_fault_84 ?_
            refine r_icmp_ne (Y := YX9_fault) (tgt := 107) dX9_fault_85 (by decide) (fun c85 => ?_) (fun c85 => ?_) 
            · refine r_iload_n (Y := YX9_fault) dX9_fault_107 rfl ?_
              refine r_if_ne (Y := YX9_fault) (tgt := 117) dX9_fault_108 (by decide) (fun c108 => ?_) (fun c108 => ?_) 
              · refine r_iload_n (Y := YX9_fault) dX9_fault_117 rfl ?_
                refine r_ireturn (Y := YX9_fault) dX9_fault_118 ?_
                first
                  | (exfalso; omega)
                  | (have hb : beh e c = 3 := by (unfold beh; (repeat (first | rw [if_pos (by omega)] | rw [if_neg (by omega)])))
                     rw [if_pos hb] at g9
                     exact ⟨rfl, g9⟩)
              · refine r_iload_n (Y := YX9_fault) dX9_fault_111 rfl ?_
                refine r_bipush (Y := YX9_fault) dX9_fault_112 ?_
                refine r_icmp_eq (Y := YX9_fault) (tgt := 119) dX9_fault_114 (by decide) (fun c114 => ?_) (fun c114 => ?_) 
                · refine r_iinc (Y := YX9_fault) dX9_fault_119 rfl ?_
                  refine r_goto (Y := YX9_fault) (tgt := 4) dX9_fault_122 (by decide) ?_
                  first
                    | (exfalso; omega)
                    | (have he0 : e = 0 ∧ c = 46 := by omega
                       obtain ⟨he0, _⟩ := he0
                       subst he0
                       have hb : beh 0 c = 0 := by (unfold beh; (repeat (first | rw [if_pos (by omega)] | rw [if_neg (by omega)])))
                       have ih9 := ih (by rw [hb]; omega) (by rw [if_neg (by rw [hb]; omega)] at g9; exact g9)
                       rw [hb] at ih9
                       exact R2.weak (by repeat first | exact trivial | refine And.intro rfl ?_) ih9)
                    | (have hb : beh e c = 0 := by (unfold beh; (repeat (first | rw [if_pos (by omega)] | rw [if_neg (by omega)])))
                       have ih9 := ih (by rw [hb]; omega) (by rw [if_neg (by rw [hb]; omega)] at g9; exact g9)
                       rw [hb] at ih9
                       exact R2.weak (by repeat first | exact trivial | refine And.intro rfl ?_) ih9)
                    | (have hb : beh e c = 1 := by (unfold beh; (repeat (first | rw [if_pos (by omega)] | rw [if_neg (by omega)])))
                       have ih9 := ih (by rw [hb]; omega) (by rw [if_neg (by rw [hb]; omega)] at g9; exact g9)
                       rw [hb] at ih9
                       exact R2.weak (by repeat first | exact trivial | refine And.intro rfl ?_) ih9)
                    | (have hb : beh e c = 2 := by (unfold beh; (repeat (first | rw [if_pos (by omega)] | rw [if_neg (by omega)])))
                       have ih9 := ih (by rw [hb]; omega) (by rw [if_neg (by rw [hb]; omega)] at g9; exact g9)
                       rw [hb] at ih9
                       exact R2.weak (by repeat first | exact trivial | refine And.intro rfl ?_) ih9)
                · refine r_iload_n (Y := YX9_fault) dX9_fault_117 rfl ?_
                  refine r_ireturn (Y := YX9_fault) dX9_fault_118 ?_
                  first
                    | (exfalso; omega)
                    | (have hb : beh e c = 3 := by (unfold beh; (repeat (first | rw [if_pos (by omega)] | rw [if_neg (by omega)])))
                       rw [if_pos hb] at g9
                       exact ⟨rfl, g9⟩)
            · refine r_iload_n (Y := YX9_fault) dX9_fault_88 rfl ?_
              refine r_i2l (Y := YX9_fault) dX9_fault_89 ?_
              refine r_ldc2 (Y := YX9_fault) (z := 49) wc_X9_141 dX9_fault_90 (by decide) ?_
              refine r_ldc2 (Y := YX9_fault) (z := 57) wc_X9_143 dX9_fault_93 (by decide) ?_
              refine r_iS3I (Y := YX9_fault) ms_X9_95 dX9_fault_96 (c_in (by omega) (by omega) (by omega) (by omega) (by omega) (by omega)) (fun σ96 z96 h96 => ?_)
              obtain ⟨rfl, h96⟩ := h96
              refine r_if_eq (Y := YX9_fault) (tgt := 107) dX9_fault_99 (by decide) (fun c99 => ?_) (fun c99 => ?_) 
              · refine r_iload_n (Y := YX9_fault) dX9_fault_107 rfl ?_
                refine r_if_ne (Y := YX9_fault) (tgt := 117) dX9_fault_108 (by decide) (fun c108 => ?_) (fun c108 => ?_) 
                · refine r_iload_n (Y := YX9_fault) dX9_fault_117 rfl ?_
                  refine r_ireturn (Y := YX9_fault) dX9_fault_118 ?_
                  first
                    | (exfalso; omega)
                    | (have hb : beh e c = 3 := by (unfold beh; (repeat (first | rw [if_pos (by omega)] | rw [if_neg (by omega)])))
                       rw [if_pos hb] at g9
                       exact ⟨rfl, g9⟩)
                · refine r_iload_n (Y := YX9_fault) dX9_fault_111 rfl ?_
                  refine r_bipush (Y := YX9_fault) dX9_fault_112 ?_
                  refine r_icmp_eq (Y := YX9_fault) (tgt := 119) dX9_fault_114 (by decide) (fun c114 => ?_) (fun c114 => ?_) 
                  · refine r_iinc (Y := YX9_fault) dX9_fault_119 rfl ?_
                    refine r_goto (Y := YX9_fault) (tgt := 4) dX9_fault_122 (by decide) ?_
                    first
                      | (exfalso; omega)
                      | (have he0 : e = 0 ∧ c = 46 := by omega
                         obtain ⟨he0, _⟩ := he0
                         subst he0
                         have hb : beh 0 c = 0 := by (unfold beh; (repeat (first | rw [if_pos (by omega)] | rw [if_neg (by omega)])))
                         have ih9 := ih (by rw [hb]; omega) (by rw [if_neg (by rw [hb]; omega)] at g9; exact g9)
                         rw [hb] at ih9
                         exact R2.weak (by repeat first | exact trivial | refine And.intro rfl ?_) ih9)
                      | (have hb : beh e c = 0 := by (unfold beh; (repeat (first | rw [if_pos (by omega)] | rw [if_neg (by omega)])))
                         have ih9 := ih (by rw [hb]; omega) (by rw [if_neg (by rw [hb]; omega)] at g9; exact g9)
                         rw [hb] at ih9
                         exact R2.weak (by repeat first | exact trivial | refine And.intro rfl ?_) ih9)
                      | (have hb : beh e c = 1 := by (unfold beh; (repeat (first | rw [if_pos (by omega)] | rw [if_neg (by omega)])))
                         have ih9 := ih (by rw [hb]; omega) (by rw [if_neg (by rw [hb]; omega)] at g9; exact g9)
                         rw [hb] at ih9
                         exact R2.weak (by repeat first | exact trivial | refine And.intro rfl ?_) ih9)
                      | (have hb : beh e c = 2 := by (unfold beh; (repeat (first | rw [if_pos (by omega)] | rw [if_neg (by omega)])))
                         have ih9 := ih (by rw [hb]; omega) (by rw [if_neg (by rw [hb]; omega)] at g9; exact g9)
                         rw [hb] at ih9
                         exact R2.weak (by repeat first | exact trivial | refine And.intro rfl ?_) ih9)
                  · refine r_iload_n (Y := YX9_fault) dX9_fault_117 rfl ?_
                    refine r_ireturn (Y := YX9_fault) dX9_fault_118 ?_
                    first
                      | (exfalso; omega)
                      | (have hb : beh e c = 3 := by (unfold beh; (repeat (first | rw [if_pos (by omega)] | rw [if_neg (by omega)])))
                         rw [if_pos hb] at g9
                         exact ⟨rfl, g9⟩)
              · refine r_iconst (Y := YX9_fault) dX9_fault_102 ?_
                refine r_istore_n (Y := YX9_fault) dX9_fault_103 ?_
                refine r_goto (Y := YX9_fault) (tgt := 119) dX9_fault_104 (by decide) ?_
                refine r_iinc (Y := YX9_fault) dX9_fault_119 rfl ?_
                refine r_goto (Y := YX9_fault) (tgt := 4) dX9_fault_122 (by decide) ?_
                first
                  | (exfalso; omega)
                  | (have he0 : e = 0 ∧ c = 46 := by omega
                     obtain ⟨he0, _⟩ := he0
                     subst he0
                     have hb : beh 0 c = 0 := by (unfold beh; (repeat (first | rw [if_pos (by omega)] | rw [if_neg (by omega)])))
                     have ih9 := ih (by rw [hb]; omega) (by rw [if_neg (by rw [hb]; omega)] at g9; exact g9)
                     rw [hb] at ih9
                     exact R2.weak (by repeat first | exact trivial | refine And.intro rfl ?_) ih9)
                  | (have hb : beh e c = 0 := by (unfold beh; (repeat (first | rw [if_pos (by omega)] | rw [if_neg (by omega)])))
                     have ih9 := ih (by rw [hb]; omega) (by rw [if_neg (by rw [hb]; omega)] at g9; exact g9)
                     rw [hb] at ih9
                     exact R2.weak (by repeat first | exact trivial | refine And.intro rfl ?_) ih9)
                  | (have hb : beh e c = 1 := by (unfold beh; (repeat (first | rw [if_pos (by omega)] | rw [if_neg (by omega)])))
                     have ih9 := ih (by rw [hb]; omega) (by rw [if_neg (by rw [hb]; omega)] at g9; exact g9)
                     rw [hb] at ih9
                     exact R2.weak (by repeat first | exact trivial | refine And.intro rfl ?_) ih9)
                  | (have hb : beh e c = 2 := by (unfold beh; (repeat (first | rw [if_pos (by omega)] | rw [if_neg (by omega)])))
                     have ih9 := ih (by rw [hb]; omega) (by rw [if_neg (by rw [hb]; omega)] at g9; exact g9)
                     rw [hb] at ih9
                     exact R2.weak (by repeat first | exact trivial | refine And.intro rfl ?_) ih9)
      · refine r_iload_n (Y := YX9_fault) dX9_fault_47 rfl ?_
        refine r_bipush (Y := YX9_fault) dX9_fault_48 ?_
        refine r_icmp_eq (Y := YX9_fault) (tgt := 59) dX9_fault_50 (by decide) (fun c50 => ?_) (fun c50 => ?_) 
        · refine r_iconst (Y := YX9_fault) dX9_fault_59 ?_
          refine r_istore_n (Y := YX9_fault) dX9_fault_60 ?_
          refine r_goto (Y := YX9_fault) (tgt := 119) dX9_fault_61 (by decide) ?_
          refine r_iinc (Y := YX9_fault) dX9_fault_119 rfl ?_
          refine r_goto (Y := YX9_fault) (tgt := 4) dX9_fault_122 (by decide) ?_
          first
            | (exfalso; omega)
            | (have he0 : e = 0 ∧ c = 46 := by omega
               obtain ⟨he0, _⟩ := he0
               subst he0
               have hb : beh 0 c = 0 := by (unfold beh; (repeat (first | rw [if_pos (by omega)] | rw [if_neg (by omega)])))
               have ih9 := ih (by rw [hb]; omega) (by rw [if_neg (by rw [hb]; omega)] at g9; exact g9)
               rw [hb] at ih9
               exact R2.weak (by repeat first | exact trivial | refine And.intro rfl ?_) ih9)
            | (have hb : beh e c = 0 := by (unfold beh; (repeat (first | rw [if_pos (by omega)] | rw [if_neg (by omega)])))
               have ih9 := ih (by rw [hb]; omega) (by rw [if_neg (by rw [hb]; omega)] at g9; exact g9)
               rw [hb] at ih9
               exact R2.weak (by repeat first | exact trivial | refine And.intro rfl ?_) ih9)
            | (have hb : beh e c = 1 := by (unfold beh; (repeat (first | rw [if_pos (by omega)] | rw [if_neg (by omega)])))
               have ih9 := ih (by rw [hb]; omega) (by rw [if_neg (by rw [hb]; omega)] at g9; exact g9)
               rw [hb] at ih9
               exact R2.weak (by repeat first | exact trivial | refine And.intro rfl ?_) ih9)
            | (have hb : beh e c = 2 := by (unfold beh; (repeat (first | rw [if_pos (by omega)] | rw [if_neg (by omega)])))
               have ih9 := ih (by rw [hb]; omega) (by rw [if_neg (by rw [hb]; omega)] at g9; exact g9)
               rw [hb] at ih9
               exact R2.weak (by repeat first | exact trivial | refine And.intro rfl ?_) ih9)
        · refine r_iload_n (Y := YX9_fault) dX9_fault_53 rfl ?_
          refine r_bipush (Y := YX9_fault) dX9_fault_54 ?_
          refine r_icmp_ne (Y := YX9_fault) (tgt := 64) dX9_fault_56 (by decide) (fun c56 => ?_) (fun c56 => ?_) 
          · refine r_iload_n (Y := YX9_fault) dX9_fault_64 rfl ?_
            refine r_iconst (Y := YX9_fault) dX9_fault_65 ?_
            refine r_icmp_ne (Y := YX9_fault) (tgt := 83) dX9_fault_66 (by decide) (fun c66 => ?_) (fun c66 => ?_) 
            · refine r_iload_n (Y := YX9_fault) dX9_fault_83 rfl ?_
              refine r_iconst (Y := YX9_fault) dX9_fault_84 ?_
              refine r_icmp_ne (Y := YX9_fault) (tgt := 107) dX9_fault_85 (by decide) (fun c85 => ?_) (fun c85 => ?_) 
              · refine r_iload_n (Y := YX9_fault) dX9_fault_107 rfl ?_
                refine r_if_ne (Y := YX9_fault) (tgt := 117) dX9_fault_108 (by decide) (fun c108 => ?_) (fun c108 => ?_) 
                · refine r_iload_n (Y := YX9_fault) dX9_fault_117 rfl ?_
                  refine r_ireturn (Y := YX9_fault) dX9_fault_118 ?_
                  first
                    | (exfalso; omega)
                    | (have hb : beh e c = 3 := by (unfold beh; (repeat (first | rw [if_pos (by omega)] | rw [if_neg (by omega)])))
                       rw [if_pos hb] at g9
                       exact ⟨rfl, g9⟩)
                · refine r_iload_n (Y := YX9_fault) dX9_fault_111 rfl ?_
                  refine r_bipush (Y := YX9_fault) dX9_fault_112 ?_
                  refine r_icmp_eq (Y := YX9_fault) (tgt := 119) dX9_fault_114 (by decide) (fun c114 => ?_) (fun c114 => ?_) 
                  · refine r_iinc (Y := YX9_fault) dX9_fault_119 rfl ?_
                    refine r_goto (Y := YX9_fault) (tgt := 4) dX9_fault_122 (by decide) ?_
                    first
                      | (exfalso; omega)
                      | (have he0 : e = 0 ∧ c = 46 := by omega
                         obtain ⟨he0, _⟩ := he0
                         subst he0
                         have hb : beh 0 c = 0 := by (unfold beh; (repeat (first | rw [if_pos (by omega)] | rw [if_neg (by omega)])))
                         have ih9 := ih (by rw [hb]; omega) (by rw [if_neg (by rw [hb]; omega)] at g9; exact g9)
                         rw [hb] at ih9
                         exact R2.weak (by repeat first | exact trivial | refine And.intro rfl ?_) ih9)
                      | (have hb : beh e c = 0 := by (unfold beh; (repeat (first | rw [if_pos (by omega)] | rw [if_neg (by omega)])))
                         have ih9 := ih (by rw [hb]; omega) (by rw [if_neg (by rw [hb]; omega)] at g9; exact g9)
                         rw [hb] at ih9
                         exact R2.weak (by repeat first | exact trivial | refine And.intro rfl ?_) ih9)
                      | (have hb : beh e c = 1 := by (unfold beh; (repeat (first | rw [if_pos (by omega)] | rw [if_neg (by omega)])))
                         have ih9 := ih (by rw [hb]; omega) (by rw [if_neg (by rw [hb]; omega)] at g9; exact g9)
                         rw [hb] at ih9
                         exact R2.weak (by repeat first | exact trivial | refine And.intro rfl ?_) ih9)
                      | (have hb : beh e c = 2 := by (unfold beh; (repeat (first | rw [if_pos (by omega)] | rw [if_neg (by omega)])))
                         have ih9 := ih (by rw [hb]; omega) (by rw [if_neg (by rw [hb]; omega)] at g9; exact g9)
                         rw [hb] at ih9
                         exact R2.weak (by repeat first | exact trivial | refine And.intro rfl ?_) ih9)
                  · refine r_iload_n (Y := YX9_fault) dX9_fault_117 rfl ?_
                    refine r_ireturn (Y := YX9_fault) dX9_fault_118 ?_
                    first
                      | (exfalso; omega)
                      | (have hb : beh e c = 3 := by (unfold beh; (repeat (first | rw [if_pos (by omega)] | rw [if_neg (by omega)])))
                         rw [if_pos hb] at g9
                         exact ⟨rfl, g9⟩)
              · refine r_iload_n (Y := YX9_fault) dX9_fault_88 rfl ?_
                refine r_i2l (Y := YX9_fault) dX9_fault_89 ?_
                refine r_ldc2 (Y := YX9_fault) (z := 49) wc_X9_141 dX9_fault_90 (by decide) ?_
                refine r_ldc2 (Y := YX9_fault) (z := 57) wc_X9_143 dX9_fault_93 (by decide) ?_
                refine r_iS3I (Y := YX9_fault) ms_X9_95 dX9_fault_96 (c_in (by omega) (by omega) (by omega) (by omega) (by omega) (by omega)) (fun σ96 z96 h96 => ?_)
                obtain ⟨rfl, h96⟩ := h96
                refine r_if_eq (Y := YX9_fault) (tgt := 107) dX9_fault_99 (by decide) (fun c99 => ?_) (fun c99 => ?_) 
                · refine r_iload_n (Y := YX9_fault) dX9_fault_107 rfl ?_
                  refine r_if_ne (Y := YX9_fault) (tgt := 117) dX9_fault_108 (by decide) (fun c108 => ?_) (fun c108 => ?_) 
                  · refine r_iload_n (Y := YX9_fault) dX9_fault_117 rfl ?_
                    refine r_ireturn (Y := YX9_fault) dX9_fault_118 ?_
                    first
                      | (exfalso; omega)
                      | (have hb : beh e c = 3 := by (unfold beh; (repeat (first | rw [if_pos (by omega)] | rw [if_neg (by omega)])))
                         rw [if_pos hb] at g9
                         exact ⟨rfl, g9⟩)
                  · refine r_iload_n (Y := YX9_fault) dX9_fault_111 rfl ?_
                    refine r_bipush (Y := YX9_fault) dX9_fault_112 ?_
                    refine r_icmp_eq (Y := YX9_fault) (tgt := 119) dX9_fault_114 (by decide) (fun c114 => ?_) (fun c114 => ?_) 
                    · refine r_iinc (Y := YX9_fault) dX9_fault_119 rfl ?_
                      refine r_goto (Y := YX9_fault) (tgt := 4) dX9_fault_122 (by decide) ?_
                      first
                        | (exfalso; omega)
                        | (have he0 : e = 0 ∧ c = 46 := by omega
                           obtain ⟨he0, _⟩ := he0
                           subst he0
                           have hb : beh 0 c = 0 := by (unfold beh; (repeat (first | rw [if_pos (by omega)] | rw [if_neg (by omega)])))
                           have ih9 := ih (by rw [hb]; omega) (by rw [if_neg (by rw [hb]; omega)] at g9; exact g9)
                           rw [hb] at ih9
                           exact R2.weak (by repeat first | exact trivial | refine And.intro rfl ?_) ih9)
                        | (have hb : beh e c = 0 := by (unfold beh; (repeat (first | rw [if_pos (by omega)] | rw [if_neg (by omega)])))
                           have ih9 := ih (by rw [hb]; omega) (by rw [if_neg (by rw [hb]; omega)] at g9; exact g9)
                           rw [hb] at ih9
                           exact R2.weak (by repeat first | exact trivial | refine And.intro rfl ?_) ih9)
                        | (have hb : beh e c = 1 := by (unfold beh; (repeat (first | rw [if_pos (by omega)] | rw [if_neg (by omega)])))
                           have ih9 := ih (by rw [hb]; omega) (by rw [if_neg (by rw [hb]; omega)] at g9; exact g9)
                           rw [hb] at ih9
                           exact R2.weak (by repeat first | exact trivial | refine And.intro rfl ?_) ih9)
                        | (have hb : beh e c = 2 := by (unfold beh; (repeat (first | rw [if_pos (by omega)] | rw [if_neg (by omega)])))
                           have ih9 := ih (by rw [hb]; omega) (by rw [if_neg (by rw [hb]; omega)] at g9; exact g9)
                           rw [hb] at ih9
                           exact R2.weak (by repeat first | exact trivial | refine And.intro rfl ?_) ih9)
                    · refine r_iload_n (Y := YX9_fault) dX9_fault_117 rfl ?_
                      refine r_ireturn (Y := YX9_fault) dX9_fault_118 ?_
                      first
                        | (exfalso; omega)
                        | (have hb : beh e c = 3 := by (unfold beh; (repeat (first | rw [if_pos (by omega)] | rw [if_neg (by omega)])))
                           rw [if_pos hb] at g9
                           exact ⟨rfl, g9⟩)
                · refine r_iconst (Y := YX9_fault) dX9_fault_102 ?_
                  refine r_istore_n (Y := YX9_fault) dX9_fault_103 ?_
                  refine r_goto (Y := YX9_fault) (tgt := 119) dX9_fault_104 (by decide) ?_
                  refine r_iinc (Y := YX9_fault) dX9_fault_119 rfl ?_
                  refine r_goto (Y := YX9_fault) (tgt := 4) dX9_fault_122 (by decide) ?_
                  first
                    | (exfalso; omega)
                    | (have he0 : e = 0 ∧ c = 46 := by omega
                       obtain ⟨he0, _⟩ := he0
                       subst he0
                       have hb : beh 0 c = 0 := by (unfold beh; (repeat (first | rw [if_pos (by omega)] | rw [if_neg (by omega)])))
                       have ih9 := ih (by rw [hb]; omega) (by rw [if_neg (by rw [hb]; omega)] at g9; exact g9)
                       rw [hb] at ih9
                       exact R2.weak (by repeat first | exact trivial | refine And.intro rfl ?_) ih9)
                    | (have hb : beh e c = 0 := by (unfold beh; (repeat (first | rw [if_pos (by omega)] | rw [if_neg (by omega)])))
                       have ih9 := ih (by rw [hb]; omega) (by rw [if_neg (by rw [hb]; omega)] at g9; exact g9)
                       rw [hb] at ih9
                       exact R2.weak (by repeat first | exact trivial | refine And.intro rfl ?_) ih9)
                    | (have hb : beh e c = 1 := by (unfold beh; (repeat (first | rw [if_pos (by omega)] | rw [if_neg (by omega)])))
                       have ih9 := ih (by rw [hb]; omega) (by rw [if_neg (by rw [hb]; omega)] at g9; exact g9)
                       rw [hb] at ih9
                       exact R2.weak (by repeat first | exact trivial | refine And.intro rfl ?_) ih9)
                    | (have hb : beh e c = 2 := by (unfold beh; (repeat (first | rw [if_pos (by omega)] | rw [if_neg (by omega)])))
                       have ih9 := ih (by rw [hb]; omega) (by rw [if_neg (by rw [hb]; omega)] at g9; exact g9)
                       rw [hb] at ih9
                       exact R2.weak (by repeat first | exact trivial | refine And.intro rfl ?_) ih9)
            · refine r_iload_n (Y := YX9_fault) dX9_fault_69 rfl ?_
              refine r_i2l (Y := YX9_fault) dX9_fault_70 ?_
              refine r_ldc2 (Y := YX9_fault) (z := 48) wc_X9_137 dX9_fault_71 (by decide) ?_
              refine r_ldc2 (Y := YX9_fault) (z := 51) wc_X9_139 dX9_fault_74 (by decide) ?_
              refine r_iS3I (Y := YX9_fault) ms_X9_95 dX9_fault_77 (c_in (by omega) (by omega) (by omega) (by omega) (by omega) (by omega)) (fun σ77 z77 h77 => ?_)
              obtain ⟨rfl, h77⟩ := h77
              refine r_if_ne (Y := YX9_fault) (tgt := 102) dX9_fault_80 (by decide) (fun c80 => ?_) (fun c80 => ?_) 
              · refine r_iconst (Y := YX9_fault) dX9_fault_102 ?_
                refine r_istore_n (Y := YX9_fault) dX9_fault_103 ?_
                refine r_goto (Y := YX9_fault) (tgt := 119) dX9_fault_104 (by decide) ?_
                refine r_iinc (Y := YX9_fault) dX9_fault_119 rfl ?_
                refine r_goto (Y := YX9_fault) (tgt := 4) dX9_fault_122 (by decide) ?_
                first
                  | (exfalso; omega)
                  | (have he0 : e = 0 ∧ c = 46 := by omega
                     obtain ⟨he0, _⟩ := he0
                     subst he0
                     have hb : beh 0 c = 0 := by (unfold beh; (repeat (first | rw [if_pos (by omega)] | rw [if_neg (by omega)])))
                     have ih9 := ih (by rw [hb]; omega) (by rw [if_neg (by rw [hb]; omega)] at g9; exact g9)
                     rw [hb] at ih9
                     exact R2.weak (by repeat first | exact trivial | refine And.intro rfl ?_) ih9)
                  | (have hb : beh e c = 0 := by (unfold beh; (repeat (first | rw [if_pos (by omega)] | rw [if_neg (by omega)])))
                     have ih9 := ih (by rw [hb]; omega) (by rw [if_neg (by rw [hb]; omega)] at g9; exact g9)
                     rw [hb] at ih9
                     exact R2.weak (by repeat first | exact trivial | refine And.intro rfl ?_) ih9)
                  | (have hb : beh e c = 1 := by (unfold beh; (repeat (first | rw [if_pos (by omega)] | rw [if_neg (by omega)])))
                     have ih9 := ih (by rw [hb]; omega) (by rw [if_neg (by rw [hb]; omega)] at g9; exact g9)
                     rw [hb] at ih9
                     exact R2.weak (by repeat first | exact trivial | refine And.intro rfl ?_) ih9)
                  | (have hb : beh e c = 2 := by (unfold beh; (repeat (first | rw [if_pos (by omega)] | rw [if_neg (by omega)])))
                     have ih9 := ih (by rw [hb]; omega) (by rw [if_neg (by rw [hb]; omega)] at g9; exact g9)
                     rw [hb] at ih9
                     exact R2.weak (by repeat first | exact trivial | refine And.intro rfl ?_) ih9)
              · refine r_iload_n (Y := YX9_fault) dX9_fault_83 rfl ?_
                refine r_iconst (Y := YX9_fault) dX9_fault_84 ?_
                refine r_icmp_ne (Y := YX9_fault) (tgt := 107) dX9_fault_85 (by decide) (fun c85 => ?_) (fun c85 => ?_) 
                · refine r_iload_n (Y := YX9_fault) dX9_fault_107 rfl ?_
                  refine r_if_ne (Y := YX9_fault) (tgt := 117) dX9_fault_108 (by decide) (fun c108 => ?_) (fun c108 => ?_) 
                  · refine r_iload_n (Y := YX9_fault) dX9_fault_117 rfl ?_
                    refine r_ireturn (Y := YX9_fault) dX9_fault_118 ?_
                    first
                      | (exfalso; omega)
                      | (have hb : beh e c = 3 := by (unfold beh; (repeat (first | rw [if_pos (by omega)] | rw [if_neg (by omega)])))
                         rw [if_pos hb] at g9
                         exact ⟨rfl, g9⟩)
                  · refine r_iload_n (Y := YX9_fault) dX9_fault_111 rfl ?_
                    refine r_bipush (Y := YX9_fault) dX9_fault_112 ?_
                    refine r_icmp_eq (Y := YX9_fault) (tgt := 119) dX9_fault_114 (by decide) (fun c114 => ?_) (fun c114 => ?_) 
                    · refine r_iinc (Y := YX9_fault) dX9_fault_119 rfl ?_
                      refine r_goto (Y := YX9_fault) (tgt := 4) dX9_fault_122 (by decide) ?_
                      first
                        | (exfalso; omega)
                        | (have he0 : e = 0 ∧ c = 46 := by omega
                           obtain ⟨he0, _⟩ := he0
                           subst he0
                           have hb : beh 0 c = 0 := by (unfold beh; (repeat (first | rw [if_pos (by omega)] | rw [if_neg (by omega)])))
                           have ih9 := ih (by rw [hb]; omega) (by rw [if_neg (by rw [hb]; omega)] at g9; exact g9)
                           rw [hb] at ih9
                           exact R2.weak (by repeat first | exact trivial | refine And.intro rfl ?_) ih9)
                        | (have hb : beh e c = 0 := by (unfold beh; (repeat (first | rw [if_pos (by omega)] | rw [if_neg (by omega)])))
                           have ih9 := ih (by rw [hb]; omega) (by rw [if_neg (by rw [hb]; omega)] at g9; exact g9)
                           rw [hb] at ih9
                           exact R2.weak (by repeat first | exact trivial | refine And.intro rfl ?_) ih9)
                        | (have hb : beh e c = 1 := by (unfold beh; (repeat (first | rw [if_pos (by omega)] | rw [if_neg (by omega)])))
                           have ih9 := ih (by rw [hb]; omega) (by rw [if_neg (by rw [hb]; omega)] at g9; exact g9)
                           rw [hb] at ih9
                           exact R2.weak (by repeat first | exact trivial | refine And.intro rfl ?_) ih9)
                        | (have hb : beh e c = 2 := by (unfold beh; (repeat (first | rw [if_pos (by omega)] | rw [if_neg (by omega)])))
                           have ih9 := ih (by rw [hb]; omega) (by rw [if_neg (by rw [hb]; omega)] at g9; exact g9)
                           rw [hb] at ih9
                           exact R2.weak (by repeat first | exact trivial | refine And.intro rfl ?_) ih9)
                    · refine r_iload_n (Y := YX9_fault) dX9_fault_117 rfl ?_
                      refine r_ireturn (Y := YX9_fault) dX9_fault_118 ?_
                      first
                        | (exfalso; omega)
                        | (have hb : beh e c = 3 := by (unfold beh; (repeat (first | rw [if_pos (by omega)] | rw [if_neg (by omega)])))
                           rw [if_pos hb] at g9
                           exact ⟨rfl, g9⟩)
                · refine r_iload_n (Y := YX9_fault) dX9_fault_88 rfl ?_
                  refine r_i2l (Y := YX9_fault) dX9_fault_89 ?_
                  refine r_ldc2 (Y := YX9_fault) (z := 49) wc_X9_141 dX9_fault_90 (by decide) ?_
                  refine r_ldc2 (Y := YX9_fault) (z := 57) wc_X9_143 dX9_fault_93 (by decide) ?_
                  refine r_iS3I (Y := YX9_fault) ms_X9_95 dX9_fault_96 (c_in (by omega) (by omega) (by omega) (by omega) (by omega) (by omega)) (fun σ96 z96 h96 => ?_)
                  obtain ⟨rfl, h96⟩ := h96
                  refine r_if_eq (Y := YX9_fault) (tgt := 107) dX9_fault_99 (by decide) (fun c99 => ?_) (fun c99 => ?_) 
                  · refine r_iload_n (Y := YX9_fault) dX9_fault_107 rfl ?_
                    refine r_if_ne (Y := YX9_fault) (tgt := 117) dX9_fault_108 (by decide) (fun c108 => ?_) (fun c108 => ?_) 
                    · refine r_iload_n (Y := YX9_fault) dX9_fault_117 rfl ?_
                      refine r_ireturn (Y := YX9_fault) dX9_fault_118 ?_
                      first
                        | (exfalso; omega)
                        | (have hb : beh e c = 3 := by (unfold beh; (repeat (first | rw [if_pos (by omega)] | rw [if_neg (by omega)])))
                           rw [if_pos hb] at g9
                           exact ⟨rfl, g9⟩)
                    · refine r_iload_n (Y := YX9_fault) dX9_fault_111 rfl ?_
                      refine r_bipush (Y := YX9_fault) dX9_fault_112 ?_
                      refine r_icmp_eq (Y := YX9_fault) (tgt := 119) dX9_fault_114 (by decide) (fun c114 => ?_) (fun c114 => ?_) 
                      · refine r_iinc (Y := YX9_fault) dX9_fault_119 rfl ?_
                        refine r_goto (Y := YX9_fault) (tgt := 4) dX9_fault_122 (by decide) ?_
                        first
                          | (exfalso; omega)
                          | (have he0 : e = 0 ∧ c = 46 := by omega
                             obtain ⟨he0, _⟩ := he0
                             subst he0
                             have hb : beh 0 c = 0 := by (unfold beh; (repeat (first | rw [if_pos (by omega)] | rw [if_neg (by omega)])))
                             have ih9 := ih (by rw [hb]; omega) (by rw [if_neg (by rw [hb]; omega)] at g9; exact g9)
                             rw [hb] at ih9
                             exact R2.weak (by repeat first | exact trivial | refine And.intro rfl ?_) ih9)
                          | (have hb : beh e c = 0 := by (unfold beh; (repeat (first | rw [if_pos (by omega)] | rw [if_neg (by omega)])))
                             have ih9 := ih (by rw [hb]; omega) (by rw [if_neg (by rw [hb]; omega)] at g9; exact g9)
                             rw [hb] at ih9
                             exact R2.weak (by repeat first | exact trivial | refine And.intro rfl ?_) ih9)
                          | (have hb : beh e c = 1 := by (unfold beh; (repeat (first | rw [if_pos (by omega)] | rw [if_neg (by omega)])))
                             have ih9 := ih (by rw [hb]; omega) (by rw [if_neg (by rw [hb]; omega)] at g9; exact g9)
                             rw [hb] at ih9
                             exact R2.weak (by repeat first | exact trivial | refine And.intro rfl ?_) ih9)
                          | (have hb : beh e c = 2 := by (unfold beh; (repeat (first | rw [if_pos (by omega)] | rw [if_neg (by omega)])))
                             have ih9 := ih (by rw [hb]; omega) (by rw [if_neg (by rw [hb]; omega)] at g9; exact g9)
                             rw [hb] at ih9
                             exact R2.weak (by repeat first | exact trivial | refine And.intro rfl ?_) ih9)
                      · refine r_iload_n (Y := YX9_fault) dX9_fault_117 rfl ?_
                        refine r_ireturn (Y := YX9_fault) dX9_fault_118 ?_
                        first
                          | (exfalso; omega)
                          | (have hb : beh e c = 3 := by (unfold beh; (repeat (first | rw [if_pos (by omega)] | rw [if_neg (by omega)])))
                             rw [if_pos hb] at g9
                             exact ⟨rfl, g9⟩)
                  · refine r_iconst (Y := YX9_fault) dX9_fault_102 ?_
                    refine r_istore_n (Y := YX9_fault) dX9_fault_103 ?_
                    refine r_goto (Y := YX9_fault) (tgt := 119) dX9_fault_104 (by decide) ?_
                    refine r_iinc (Y := YX9_fault) dX9_fault_119 rfl ?_
                    refine r_goto (Y := YX9_fault) (tgt := 4) dX9_fault_122 (by decide) ?_
                    first
                      | (exfalso; omega)
                      | (have he0 : e = 0 ∧ c = 46 := by omega
                         obtain ⟨he0, _⟩ := he0
                         subst he0
                         have hb : beh 0 c = 0 := by (unfold beh; (repeat (first | rw [if_pos (by omega)] | rw [if_neg (by omega)])))
                         have ih9 := ih (by rw [hb]; omega) (by rw [if_neg (by rw [hb]; omega)] at g9; exact g9)
                         rw [hb] at ih9
                         exact R2.weak (by repeat first | exact trivial | refine And.intro rfl ?_) ih9)
                      | (have hb : beh e c = 0 := by (unfold beh; (repeat (first | rw [if_pos (by omega)] | rw [if_neg (by omega)])))
                         have ih9 := ih (by rw [hb]; omega) (by rw [if_neg (by rw [hb]; omega)] at g9; exact g9)
                         rw [hb] at ih9
                         exact R2.weak (by repeat first | exact trivial | refine And.intro rfl ?_) ih9)
                      | (have hb : beh e c = 1 := by (unfold beh; (repeat (first | rw [if_pos (by omega)] | rw [if_neg (by omega)])))
                         have ih9 := ih (by rw [hb]; omega) (by rw [if_neg (by rw [hb]; omega)] at g9; exact g9)
                         rw [hb] at ih9
                         exact R2.weak (by repeat first | exact trivial | refine And.intro rfl ?_) ih9)
                      | (have hb : beh e c = 2 := by (unfold beh; (repeat (first | rw [if_pos (by omega)] | rw [if_neg (by omega)])))
                         have ih9 := ih (by rw [hb]; omega) (by rw [if_neg (by rw [hb]; omega)] at g9; exact g9)
                         rw [hb] at ih9
                         exact R2.weak (by repeat first | exact trivial | refine And.intro rfl ?_) ih9)
          · refine r_iconst (Y := YX9_fault) dX9_fault_59 ?_
            refine r_istore_n (Y := YX9_fault) dX9_fault_60 ?_
            refine r_goto (Y := YX9_fault) (tgt := 119) dX9_fault_61 (by decide) ?_
            refine r_iinc (Y := YX9_fault) dX9_fault_119 rfl ?_
            refine r_goto (Y := YX9_fault) (tgt := 4) dX9_fault_122 (by decide) ?_
            first
              | (exfalso; omega)
              | (have he0 : e = 0 ∧ c = 46 := by omega
                 obtain ⟨he0, _⟩ := he0
                 subst he0
                 have hb : beh 0 c = 0 := by (unfold beh; (repeat (first | rw [if_pos (by omega)] | rw [if_neg (by omega)])))
                 have ih9 := ih (by rw [hb]; omega) (by rw [if_neg (by rw [hb]; omega)] at g9; exact g9)
                 rw [hb] at ih9
                 exact R2.weak (by repeat first | exact trivial | refine And.intro rfl ?_) ih9)
              | (have hb : beh e c = 0 := by (unfold beh; (repeat (first | rw [if_pos (by omega)] | rw [if_neg (by omega)])))
                 have ih9 := ih (by rw [hb]; omega) (by rw [if_neg (by rw [hb]; omega)] at g9; exact g9)
                 rw [hb] at ih9
                 exact R2.weak (by repeat first | exact trivial | refine And.intro rfl ?_) ih9)
              | (have hb : beh e c = 1 := by (unfold beh; (repeat (first | rw [if_pos (by omega)] | rw [if_neg (by omega)])))
                 have ih9 := ih (by rw [hb]; omega) (by rw [if_neg (by rw [hb]; omega)] at g9; exact g9)
                 rw [hb] at ih9
                 exact R2.weak (by repeat first | exact trivial | refine And.intro rfl ?_) ih9)
              | (have hb : beh e c = 2 := by (unfold beh; (repeat (first | rw [if_pos (by omega)] | rw [if_neg (by omega)])))
                 have ih9 := ih (by rw [hb]; omega) (by rw [if_neg (by rw [hb]; omega)] at g9; exact g9)
                 rw [hb] at ih9
                 exact R2.weak (by repeat first | exact trivial | refine And.intro rfl ?_) ih9)
    · refine r_iload_n (Y := YX9_fault) dX9_fault_23 rfl ?_
      refine r_i2l (Y := YX9_fault) dX9_fault_24 ?_
      refine r_ldc2 (Y := YX9_fault) (z := 65) wc_X9_133 dX9_fault_25 (by decide) ?_
      refine r_ldc2 (Y := YX9_fault) (z := 70) wc_X9_135 dX9_fault_28 (by decide) ?_
      refine r_iS3I (Y := YX9_fault) ms_X9_95 dX9_fault_31 (c_in (by omega) (by omega) (by omega) (by omega) (by omega) (by omega)) (fun σ31 z31 h31 => ?_)
      obtain ⟨rfl, h31⟩ := h31
      refine r_if_eq (Y := YX9_fault) (tgt := 42) dX9_fault_34 (by decide) (fun c34 => ?_) (fun c34 => ?_) 
      · refine r_iload_n (Y := YX9_fault) dX9_fault_42 rfl ?_
        refine r_iconst (Y := YX9_fault) dX9_fault_43 ?_
        refine r_icmp_ne (Y := YX9_fault) (tgt := 64) dX9_fault_44 (by decide) (fun c44 => ?_) (fun c44 => ?_) 
        · refine r_iload_n (Y := YX9_fault) dX9_fault_64 rfl ?_
          refine r_iconst (Y := YX9_fault) dX9_fault_65 ?_
          refine r_icmp_ne (Y := YX9_fault) (tgt := 83) dX9_fault_66 (by decide) (fun c66 => ?_) (fun c66 => ?_) 
          · refine r_iload_n (Y := YX9_fault) dX9_fault_83 rfl ?_
            refine r_iconst (Y := YX9_fault) dX9_fault_84 ?_
            refine r_icmp_ne (Y := YX9_fault) (tgt := 107) dX9_fault_85 (by decide) (fun c85 => ?_) (fun c85 => ?_) 
            · refine r_iload_n (Y := YX9_fault) dX9_fault_107 rfl ?_
              refine r_if_ne (Y := YX9_fault) (tgt := 117) dX9_fault_108 (by decide) (fun c108 => ?_) (fun c108 => ?_) 
              · refine r_iload_n (Y := YX9_fault) dX9_fault_117 rfl ?_
                refine r_ireturn (Y := YX9_fault) dX9_fault_118 ?_
                first
                  | (exfalso; omega)
                  | (have hb : beh e c = 3 := by (unfold beh; (repeat (first | rw [if_pos (by omega)] | rw [if_neg (by omega)])))
                     rw [if_pos hb] at g9
                     exact ⟨rfl, g9⟩)
              · refine r_iload_n (Y := YX9_fault) dX9_fault_111 rfl ?_
                refine r_bipush (Y := YX9_fault) dX9_fault_112 ?_
                refine r_icmp_eq (Y := YX9_fault) (tgt := 119) dX9_fault_114 (by decide) (fun c114 => ?_) (fun c114 => ?_) 
                · refine r_iinc (Y := YX9_fault) dX9_fault_119 rfl ?_
                  refine r_goto (Y := YX9_fault) (tgt := 4) dX9_fault_122 (by decide) ?_
                  first
                    | (exfalso; omega)
                    | (have he0 : e = 0 ∧ c = 46 := by omega
                       obtain ⟨he0, _⟩ := he0
                       subst he0
                       have hb : beh 0 c = 0 := by (unfold beh; (repeat (first | rw [if_pos (by omega)] | rw [if_neg (by omega)])))
                       have ih9 := ih (by rw [hb]; omega) (by rw [if_neg (by rw [hb]; omega)] at g9; exact g9)
                       rw [hb] at ih9
                       exact R2.weak (by repeat first | exact trivial | refine And.intro rfl ?_) ih9)
                    | (have hb : beh e c = 0 := by (unfold beh; (repeat (first | rw [if_pos (by omega)] | rw [if_neg (by omega)])))
                       have ih9 := ih (by rw [hb]; omega) (by rw [if_neg (by rw [hb]; omega)] at g9; exact g9)
                       rw [hb] at ih9
                       exact R2.weak (by repeat first | exact trivial | refine And.intro rfl ?_) ih9)
                    | (have hb : beh e c = 1 := by (unfold beh; (repeat (first | rw [if_pos (by omega)] | rw [if_neg (by omega)])))
                       have ih9 := ih (by rw [hb]; omega) (by rw [if_neg (by rw [hb]; omega)] at g9; exact g9)
                       rw [hb] at ih9
                       exact R2.weak (by repeat first | exact trivial | refine And.intro rfl ?_) ih9)
                    | (have hb : beh e c = 2 := by (unfold beh; (repeat (first | rw [if_pos (by omega)] | rw [if_neg (by omega)])))
                       have ih9 := ih (by rw [hb]; omega) (by rw [if_neg (by rw [hb]; omega)] at g9; exact g9)
                       rw [hb] at ih9
                       exact R2.weak (by repeat first | exact trivial | refine And.intro rfl ?_) ih9)
                · refine r_iload_n (Y := YX9_fault) dX9_fault_117 rfl ?_
                  refine r_ireturn (Y := YX9_fault) dX9_fault_118 ?_
                  first
                    | (exfalso; omega)
                    | (have hb : beh e c = 3 := by (unfold beh; (repeat (first | rw [if_pos (by omega)] | rw [if_neg (by omega)])))
                       rw [if_pos hb] at g9
                       exact ⟨rfl, g9⟩)
            · refine r_iload_n (Y := YX9_fault) dX9_fault_88 rfl ?_
              refine r_i2l (Y := YX9_fault) dX9_fault_89 ?_
              refine r_ldc2 (Y := YX9_fault) (z := 49) wc_X9_141 dX9_fault_90 (by decide) ?_
              refine r_ldc2 (Y := YX9_fault) (z := 57) wc_X9_143 dX9_fault_93 (by decide) ?_
              refine r_iS3I (Y := YX9_fault) ms_X9_95 dX9_fault_96 (c_in (by omega) (by omega) (by omega) (by omega) (by omega) (by omega)) (fun σ96 z96 h96 => ?_)
              obtain ⟨rfl, h96⟩ := h96
              refine r_if_eq (Y := YX9_fault) (tgt := 107) dX9_fault_99 (by decide) (fun c99 => ?_) (fun c99 => ?_) 
              · refine r_iload_n (Y := YX9_fault) dX9_fault_107 rfl ?_
                refine r_if_ne (Y := YX9_fault) (tgt := 117) dX9_fault_108 (by decide) (fun c108 => ?_) (fun c108 => ?_) 
                · refine r_iload_n (Y := YX9_fault) dX9_fault_117 rfl ?_
                  refine r_ireturn (Y := YX9_fault) dX9_fault_118 ?_
                  first
                    | (exfalso; omega)
                    | (have hb : beh e c = 3 := by (unfold beh; (repeat (first | rw [if_pos (by omega)] | rw [if_neg (by omega)])))
                       rw [if_pos hb] at g9
                       exact ⟨rfl, g9⟩)
                · refine r_iload_n (Y := YX9_fault) dX9_fault_111 rfl ?_
                  refine r_bipush (Y := YX9_fault) dX9_fault_112 ?_
                  refine r_icmp_eq (Y := YX9_fault) (tgt := 119) dX9_fault_114 (by decide) (fun c114 => ?_) (fun c114 => ?_) 
                  · refine r_iinc (Y := YX9_fault) dX9_fault_119 rfl ?_
                    refine r_goto (Y := YX9_fault) (tgt := 4) dX9_fault_122 (by decide) ?_
                    first
                      | (exfalso; omega)
                      | (have he0 : e = 0 ∧ c = 46 := by omega
                         obtain ⟨he0, _⟩ := he0
                         subst he0
                         have hb : beh 0 c = 0 := by (unfold beh; (repeat (first | rw [if_pos (by omega)] | rw [if_neg (by omega)])))
                         have ih9 := ih (by rw [hb]; omega) (by rw [if_neg (by rw [hb]; omega)] at g9; exact g9)
                         rw [hb] at ih9
                         exact R2.weak (by repeat first | exact trivial | refine And.intro rfl ?_) ih9)
                      | (have hb : beh e c = 0 := by (unfold beh; (repeat (first | rw [if_pos (by omega)] | rw [if_neg (by omega)])))
                         have ih9 := ih (by rw [hb]; omega) (by rw [if_neg (by rw [hb]; omega)] at g9; exact g9)
                         rw [hb] at ih9
                         exact R2.weak (by repeat first | exact trivial | refine And.intro rfl ?_) ih9)
                      | (have hb : beh e c = 1 := by (unfold beh; (repeat (first | rw [if_pos (by omega)] | rw [if_neg (by omega)])))
                         have ih9 := ih (by rw [hb]; omega) (by rw [if_neg (by rw [hb]; omega)] at g9; exact g9)
                         rw [hb] at ih9
                         exact R2.weak (by repeat first | exact trivial | refine And.intro rfl ?_) ih9)
                      | (have hb : beh e c = 2 := by (unfold beh; (repeat (first | rw [if_pos (by omega)] | rw [if_neg (by omega)])))
                         have ih9 := ih (by rw [hb]; omega) (by rw [if_neg (by rw [hb]; omega)] at g9; exact g9)
                         rw [hb] at ih9
                         exact R2.weak (by repeat first | exact trivial | refine And.intro rfl ?_) ih9)
                  · refine r_iload_n (Y := YX9_fault) dX9_fault_117 rfl ?_
                    refine r_ireturn (Y := YX9_fault) dX9_fault_118 ?_
                    first
                      | (exfalso; omega)
                      | (have hb : beh e c = 3 := by (unfold beh; (repeat (first | rw [if_pos (by omega)] | rw [if_neg (by omega)])))
                         rw [if_pos hb] at g9
                         exact ⟨rfl, g9⟩)
              · refine r_iconst (Y := YX9_fault) dX9_fault_102 ?_
                refine r_istore_n (Y := YX9_fault) dX9_fault_103 ?_
                refine r_goto (Y := YX9_fault) (tgt := 119) dX9_fault_104 (by decide) ?_
                refine r_iinc (Y := YX9_fault) dX9_fault_119 rfl ?_
                refine r_goto (Y := YX9_fault) (tgt := 4) dX9_fault_122 (by decide) ?_
                first
                  | (exfalso; omega)
                  | (have he0 : e = 0 ∧ c = 46 := by omega
                     obtain ⟨he0, _⟩ := he0
                     subst he0
                     have hb : beh 0 c = 0 := by (unfold beh; (repeat (first | rw [if_pos (by omega)] | rw [if_neg (by omega)])))
                     have ih9 := ih (by rw [hb]; omega) (by rw [if_neg (by rw [hb]; omega)] at g9; exact g9)
                     rw [hb] at ih9
                     exact R2.weak (by repeat first | exact trivial | refine And.intro rfl ?_) ih9)
                  | (have hb : beh e c = 0 := by (unfold beh; (repeat (first | rw [if_pos (by omega)] | rw [if_neg (by omega)])))
                     have ih9 := ih (by rw [hb]; omega) (by rw [if_neg (by rw [hb]; omega)] at g9; exact g9)
                     rw [hb] at ih9
                     exact R2.weak (by repeat first | exact trivial | refine And.intro rfl ?_) ih9)
                  | (have hb : beh e c = 1 := by (unfold beh; (repeat (first | rw [if_pos (by omega)] | rw [if_neg (by omega)])))
                     have ih9 := ih (by rw [hb]; omega) (by rw [if_neg (by rw [hb]; omega)] at g9; exact g9)
                     rw [hb] at ih9
                     exact R2.weak (by repeat first | exact trivial | refine And.intro rfl ?_) ih9)
                  | (have hb : beh e c = 2 := by (unfold beh; (repeat (first | rw [if_pos (by omega)] | rw [if_neg (by omega)])))
                     have ih9 := ih (by rw [hb]; omega) (by rw [if_neg (by rw [hb]; omega)] at g9; exact g9)
                     rw [hb] at ih9
                     exact R2.weak (by repeat first | exact trivial | refine And.intro rfl ?_) ih9)
          · refine r_iload_n (Y := YX9_fault) dX9_fault_69 rfl ?_
            refine r_i2l (Y := YX9_fault) dX9_fault_70 ?_
            refine r_ldc2 (Y := YX9_fault) (z := 48) wc_X9_137 dX9_fault_71 (by decide) ?_
            refine r_ldc2 (Y := YX9_fault) (z := 51) wc_X9_139 dX9_fault_74 (by decide) ?_
            refine r_iS3I (Y := YX9_fault) ms_X9_95 dX9_fault_77 (c_in (by omega) (by omega) (by omega) (by omega) (by omega) (by omega)) (fun σ77 z77 h77 => ?_)
            obtain ⟨rfl, h77⟩ := h77
            refine r_if_ne (Y := YX9_fault) (tgt := 102) dX9_fault_80 (by decide) (fun c80 => ?_) (fun c80 => ?_) 
            · refine r_iconst (Y := YX9_fault) dX9_fault_102 ?_
              refine r_istore_n (Y := YX9_fault) dX9_fault_103 ?_
              refine r_goto (Y := YX9_fault) (tgt := 119) dX9_fault_104 (by decide) ?_
              refine r_iinc (Y := YX9_fault) dX9_fault_119 rfl ?_
              refine r_goto (Y := YX9_fault) (tgt := 4) dX9_fault_122 (by decide) ?_
              first
                | (exfalso; omega)
                | (have he0 : e = 0 ∧ c = 46 := by omega
                   obtain ⟨he0, _⟩ := he0
                   subst he0
                   have hb : beh 0 c = 0 := by (unfold beh; (repeat (first | rw [if_pos (by omega)] | rw [if_neg (by omega)])))
                   have ih9 := ih (by rw [hb]; omega) (by rw [if_neg (by rw [hb]; omega)] at g9; exact g9)
                   rw [hb] at ih9
                   exact R2.weak (by repeat first | exact trivial | refine And.intro rfl ?_) ih9)
                | (have hb : beh e c = 0 := by (unfold beh; (repeat (first | rw [if_pos (by omega)] | rw [if_neg (by omega)])))
                   have ih9 := ih (by rw [hb]; omega) (by rw [if_neg (by rw [hb]; omega)] at g9; exact g9)
                   rw [hb] at ih9
                   exact R2.weak (by repeat first | exact trivial | refine And.intro rfl ?_) ih9)
                | (have hb : beh e c = 1 := by (unfold beh; (repeat (first | rw [if_pos (by omega)] | rw [if_neg (by omega)])))
                   have ih9 := ih (by rw [hb]; omega) (by rw [if_neg (by rw [hb]; omega)] at g9; exact g9)
                   rw [hb] at ih9
                   exact R2.weak (by repeat first | exact trivial | refine And.intro rfl ?_) ih9)
                | (have hb : beh e c = 2 := by (unfold beh; (repeat (first | rw [if_pos (by omega)] | rw [if_neg (by omega)])))
                   have ih9 := ih (by rw [hb]; omega) (by rw [if_neg (by rw [hb]; omega)] at g9; exact g9)
                   rw [hb] at ih9
                   exact R2.weak (by repeat first | exact trivial | refine And.intro rfl ?_) ih9)
            · refine r_iload_n (Y := YX9_fault) dX9_fault_83 rfl ?_
              refine r_iconst (Y := YX9_fault) dX9_fault_84 ?_
              refine r_icmp_ne (Y := YX9_fault) (tgt := 107) dX9_fault_85 (by decide) (fun c85 => ?_) (fun c85 => ?_) 
              · refine r_iload_n (Y := YX9_fault) dX9_fault_107 rfl ?_
                refine r_if_ne (Y := YX9_fault) (tgt := 117) dX9_fault_108 (by decide) (fun c108 => ?_) (fun c108 => ?_) 
                · refine r_iload_n (Y := YX9_fault) dX9_fault_117 rfl ?_
                  refine r_ireturn (Y := YX9_fault) dX9_fault_118 ?_
                  first
                    | (exfalso; omega)
                    | (have hb : beh e c = 3 := by (unfold beh; (repeat (first | rw [if_pos (by omega)] | rw [if_neg (by omega)])))
                       rw [if_pos hb] at g9
                       exact ⟨rfl, g9⟩)
                · refine r_iload_n (Y := YX9_fault) dX9_fault_111 rfl ?_
                  refine r_bipush (Y := YX9_fault) dX9_fault_112 ?_
                  refine r_icmp_eq (Y := YX9_fault) (tgt := 119) dX9_fault_114 (by decide) (fun c114 => ?_) (fun c114 => ?_) 
                  · refine r_iinc (Y := YX9_fault) dX9_fault_119 rfl ?_
                    refine r_goto (Y := YX9_fault) (tgt := 4) dX9_fault_122 (by decide) ?_
                    first
                      | (exfalso; omega)
                      | (have he0 : e = 0 ∧ c = 46 := by omega
                         obtain ⟨he0, _⟩ := he0
                         subst he0
                         have hb : beh 0 c = 0 := by (unfold beh; (repeat (first | rw [if_pos (by omega)] | rw [if_neg (by omega)])))
                         have ih9 := ih (by rw [hb]; omega) (by rw [if_neg (by rw [hb]; omega)] at g9; exact g9)
                         rw [hb] at ih9
                         exact R2.weak (by repeat first | exact trivial | refine And.intro rfl ?_) ih9)
                      | (have hb : beh e c = 0 := by (unfold beh; (repeat (first | rw [if_pos (by omega)] | rw [if_neg (by omega)])))
                         have ih9 := ih (by rw [hb]; omega) (by rw [if_neg (by rw [hb]; omega)] at g9; exact g9)
                         rw [hb] at ih9
                         exact R2.weak (by repeat first | exact trivial | refine And.intro rfl ?_) ih9)
                      | (have hb : beh e c = 1 := by (unfold beh; (repeat (first | rw [if_pos (by omega)] | rw [if_neg (by omega)])))
                         have ih9 := ih (by rw [hb]; omega) (by rw [if_neg (by rw [hb]; omega)] at g9; exact g9)
                         rw [hb] at ih9
                         exact R2.weak (by repeat first | exact trivial | refine And.intro rfl ?_) ih9)
                      | (have hb : beh e c = 2 := by (unfold beh; (repeat (first | rw [if_pos (by omega)] | rw [if_neg (by omega)])))
                         have ih9 := ih (by rw [hb]; omega) (by rw [if_neg (by rw [hb]; omega)] at g9; exact g9)
                         rw [hb] at ih9
                         exact R2.weak (by repeat first | exact trivial | refine And.intro rfl ?_) ih9)
                  · refine r_iload_n (Y := YX9_fault) dX9_fault_117 rfl ?_
                    refine r_ireturn (Y := YX9_fault) dX9_fault_118 ?_
                    first
                      | (exfalso; omega)
                      | (have hb : beh e c = 3 := by (unfold beh; (repeat (first | rw [if_pos (by omega)] | rw [if_neg (by omega)])))
                         rw [if_pos hb] at g9
                         exact ⟨rfl, g9⟩)
              · refine r_iload_n (Y := YX9_fault) dX9_fault_88 rfl ?_
                refine r_i2l (Y := YX9_fault) dX9_fault_89 ?_
                refine r_ldc2 (Y := YX9_fault) (z := 49) wc_X9_141 dX9_fault_90 (by decide) ?_
                refine r_ldc2 (Y := YX9_fault) (z := 57) wc_X9_143 dX9_fault_93 (by decide) ?_
                refine r_iS3I (Y := YX9_fault) ms_X9_95 dX9_fault_96 (c_in (by omega) (by omega) (by omega) (by omega) (by omega) (by omega)) (fun σ96 z96 h96 => ?_)
                obtain ⟨rfl, h96⟩ := h96
                refine r_if_eq (Y := YX9_fault) (tgt := 107) dX9_fault_99 (by decide) (fun c99 => ?_) (fun c99 => ?_) 
                · refine r_iload_n (Y := YX9_fault) dX9_fault_107 rfl ?_
                  refine r_if_ne (Y := YX9_fault) (tgt := 117) dX9_fault_108 (by decide) (fun c108 => ?_) (fun c108 => ?_) 
                  · refine r_iload_n (Y := YX9_fault) dX9_fault_117 rfl ?_
                    refine r_ireturn (Y := YX9_fault) dX9_fault_118 ?_
                    first
                      | (exfalso; omega)
                      | (have hb : beh e c = 3 := by (unfold beh; (repeat (first | rw [if_pos (by omega)] | rw [if_neg (by omega)])))
                         rw [if_pos hb] at g9
                         exact ⟨rfl, g9⟩)
                  · refine r_iload_n (Y := YX9_fault) dX9_fault_111 rfl ?_
                    refine r_bipush (Y := YX9_fault) dX9_fault_112 ?_
                    refine r_icmp_eq (Y := YX9_fault) (tgt := 119) dX9_fault_114 (by decide) (fun c114 => ?_) (fun c114 => ?_) 
                    · refine r_iinc (Y := YX9_fault) dX9_fault_119 rfl ?_
                      refine r_goto (Y := YX9_fault) (tgt := 4) dX9_fault_122 (by decide) ?_
                      first
                        | (exfalso; omega)
                        | (have he0 : e = 0 ∧ c = 46 := by omega
                           obtain ⟨he0, _⟩ := he0
                           subst he0
                           have hb : beh 0 c = 0 := by (unfold beh; (repeat (first | rw [if_pos (by omega)] | rw [if_neg (by omega)])))
                           have ih9 := ih (by rw [hb]; omega) (by rw [if_neg (by rw [hb]; omega)] at g9; exact g9)
                           rw [hb] at ih9
                           exact R2.weak (by repeat first | exact trivial | refine And.intro rfl ?_) ih9)
                        | (have hb : beh e c = 0 := by (unfold beh; (repeat (first | rw [if_pos (by omega)] | rw [if_neg (by omega)])))
                           have ih9 := ih (by rw [hb]; omega) (by rw [if_neg (by rw [hb]; omega)] at g9; exact g9)
                           rw [hb] at ih9
                           exact R2.weak (by repeat first | exact trivial | refine And.intro rfl ?_) ih9)
                        | (have hb : beh e c = 1 := by (unfold beh; (repeat (first | rw [if_pos (by omega)] | rw [if_neg (by omega)])))
                           have ih9 := ih (by rw [hb]; omega) (by rw [if_neg (by rw [hb]; omega)] at g9; exact g9)
                           rw [hb] at ih9
                           exact R2.weak (by repeat first | exact trivial | refine And.intro rfl ?_) ih9)
                        | (have hb : beh e c = 2 := by (unfold beh; (repeat (first | rw [if_pos (by omega)] | rw [if_neg (by omega)])))
                           have ih9 := ih (by rw [hb]; omega) (by rw [if_neg (by rw [hb]; omega)] at g9; exact g9)
                           rw [hb] at ih9
                           exact R2.weak (by repeat first | exact trivial | refine And.intro rfl ?_) ih9)
                    · refine r_iload_n (Y := YX9_fault) dX9_fault_117 rfl ?_
                      refine r_ireturn (Y := YX9_fault) dX9_fault_118 ?_
                      first
                        | (exfalso; omega)
                        | (have hb : beh e c = 3 := by (unfold beh; (repeat (first | rw [if_pos (by omega)] | rw [if_neg (by omega)])))
                           rw [if_pos hb] at g9
                           exact ⟨rfl, g9⟩)
                · refine r_iconst (Y := YX9_fault) dX9_fault_102 ?_
                  refine r_istore_n (Y := YX9_fault) dX9_fault_103 ?_
                  refine r_goto (Y := YX9_fault) (tgt := 119) dX9_fault_104 (by decide) ?_
                  refine r_iinc (Y := YX9_fault) dX9_fault_119 rfl ?_
                  refine r_goto (Y := YX9_fault) (tgt := 4) dX9_fault_122 (by decide) ?_
                  first
                    | (exfalso; omega)
                    | (have he0 : e = 0 ∧ c = 46 := by omega
                       obtain ⟨he0, _⟩ := he0
                       subst he0
                       have hb : beh 0 c = 0 := by (unfold beh; (repeat (first | rw [if_pos (by omega)] | rw [if_neg (by omega)])))
                       have ih9 := ih (by rw [hb]; omega) (by rw [if_neg (by rw [hb]; omega)] at g9; exact g9)
                       rw [hb] at ih9
                       exact R2.weak (by repeat first | exact trivial | refine And.intro rfl ?_) ih9)
                    | (have hb : beh e c = 0 := by (unfold beh; (repeat (first | rw [if_pos (by omega)] | rw [if_neg (by omega)])))
                       have ih9 := ih (by rw [hb]; omega) (by rw [if_neg (by rw [hb]; omega)] at g9; exact g9)
                       rw [hb] at ih9
                       exact R2.weak (by repeat first | exact trivial | refine And.intro rfl ?_) ih9)
                    | (have hb : beh e c = 1 := by (unfold beh; (repeat (first | rw [if_pos (by omega)] | rw [if_neg (by omega)])))
                       have ih9 := ih (by rw [hb]; omega) (by rw [if_neg (by rw [hb]; omega)] at g9; exact g9)
                       rw [hb] at ih9
                       exact R2.weak (by repeat first | exact trivial | refine And.intro rfl ?_) ih9)
                    | (have hb : beh e c = 2 := by (unfold beh; (repeat (first | rw [if_pos (by omega)] | rw [if_neg (by omega)])))
                       have ih9 := ih (by rw [hb]; omega) (by rw [if_neg (by rw [hb]; omega)] at g9; exact g9)
                       rw [hb] at ih9
                       exact R2.weak (by repeat first | exact trivial | refine And.intro rfl ?_) ih9)
        · refine r_iload_n (Y := YX9_fault) dX9_fault_47 rfl ?_
          refine r_bipush (Y := YX9_fault) dX9_fault_48 ?_
          refine r_icmp_eq (Y := YX9_fault) (tgt := 59) dX9_fault_50 (by decide) (fun c50 => ?_) (fun c50 => ?_) 
          · refine r_iconst (Y := YX9_fault) dX9_fault_59 ?_
            refine r_istore_n (Y := YX9_fault) dX9_fault_60 ?_
            refine r_goto (Y := YX9_fault) (tgt := 119) dX9_fault_61 (by decide) ?_
            refine r_iinc (Y := YX9_fault) dX9_fault_119 rfl ?_
            refine r_goto (Y := YX9_fault) (tgt := 4) dX9_fault_122 (by decide) ?_
            first
              | (exfalso; omega)
              | (have he0 : e = 0 ∧ c = 46 := by omega
                 obtain ⟨he0, _⟩ := he0
                 subst he0
                 have hb : beh 0 c = 0 := by (unfold beh; (repeat (first | rw [if_pos (by omega)] | rw [if_neg (by omega)])))
                 have ih9 := ih (by rw [hb]; omega) (by rw [if_neg (by rw [hb]; omega)] at g9; exact g9)
                 rw [hb] at ih9
                 exact R2.weak (by repeat first | exact trivial | refine And.intro rfl ?_) ih9)
              | (have hb : beh e c = 0 := by (unfold beh; (repeat (first | rw [if_pos (by omega)] | rw [if_neg (by omega)])))
                 have ih9 := ih (by rw [hb]; omega) (by rw [if_neg (by rw [hb]; omega)] at g9; exact g9)
                 rw [hb] at ih9
                 exact R2.weak (by repeat first | exact trivial | refine And.intro rfl ?_) ih9)
              | (have hb : beh e c = 1 := by (unfold beh; (repeat (first | rw [if_pos (by omega)] | rw [if_neg (by omega)])))
                 have ih9 := ih (by rw [hb]; omega) (by rw [if_neg (by rw [hb]; omega)] at g9; exact g9)
                 rw [hb] at ih9
                 exact R2.weak (by repeat first | exact trivial | refine And.intro rfl ?_) ih9)
              | (have hb : beh e c = 2 := by (unfold beh; (repeat (first | rw [if_pos (by omega)] | rw [if_neg (by omega)])))
                 have ih9 := ih (by rw [hb]; omega) (by rw [if_neg (by rw [hb]; omega)] at g9; exact g9)
                 rw [hb] at ih9
                 exact R2.weak (by repeat first | exact trivial | refine And.intro rfl ?_) ih9)
          · refine r_iload_n (Y := YX9_fault) dX9_fault_53 rfl ?_
            refine r_bipush (Y := YX9_fault) dX9_fault_54 ?_
            refine r_icmp_ne (Y := YX9_fault) (tgt := 64) dX9_fault_56 (by decide) (fun c56 => ?_) (fun c56 => ?_) 
            · refine r_iload_n (Y := YX9_fault) dX9_fault_64 rfl ?_
              refine r_iconst (Y := YX9_fault) dX9_fault_65 ?_
              refine r_icmp_ne (Y := YX9_fault) (tgt := 83) dX9_fault_66 (by decide) (fun c66 => ?_) (fun c66 => ?_) 
              · refine r_iload_n (Y := YX9_fault) dX9_fault_83 rfl ?_
                refine r_iconst (Y := YX9_fault) dX9_fault_84 ?_
                refine r_icmp_ne (Y := YX9_fault) (tgt := 107) dX9_fault_85 (by decide) (fun c85 => ?_) (fun c85 => ?_) 
                · refine r_iload_n (Y := YX9_fault) dX9_fault_107 rfl ?_
                  refine r_if_ne (Y := YX9_fault) (tgt := 117) dX9_fault_108 (by decide) (fun c108 => ?_) (fun c108 => ?_) 
                  · refine r_iload_n (Y := YX9_fault) dX9_fault_117 rfl ?_
                    refine r_ireturn (Y := YX9_fault) dX9_fault_118 ?_
                    first
                      | (exfalso; omega)
                      | (have hb : beh e c = 3 := by (unfold beh; (repeat (first | rw [if_pos (by omega)] | rw [if_neg (by omega)])))
                         rw [if_pos hb] at g9
                         exact ⟨rfl, g9⟩)
                  · refine r_iload_n (Y := YX9_fault) dX9_fault_111 rfl ?_
                    refine r_bipush (Y := YX9_fault) dX9_fault_112 ?_
                    refine r_icmp_eq (Y := YX9_fault) (tgt := 119) dX9_fault_114 (by decide) (fun c114 => ?_) (fun c114 => ?_) 
                    · refine r_iinc (Y := YX9_fault) dX9_fault_119 rfl ?_
                      refine r_goto (Y := YX9_fault) (tgt := 4) dX9_fault_122 (by decide) ?_
                      first
                        | (exfalso; omega)
                        | (have he0 : e = 0 ∧ c = 46 := by omega
                           obtain ⟨he0, _⟩ := he0
                           subst he0
                           have hb : beh 0 c = 0 := by (unfold beh; (repeat (first | rw [if_pos (by omega)] | rw [if_neg (by omega)])))
                           have ih9 := ih (by rw [hb]; omega) (by rw [if_neg (by rw [hb]; omega)] at g9; exact g9)
                           rw [hb] at ih9
                           exact R2.weak (by repeat first | exact trivial | refine And.intro rfl ?_) ih9)
                        | (have hb : beh e c = 0 := by (unfold beh; (repeat (first | rw [if_pos (by omega)] | rw [if_neg (by omega)])))
                           have ih9 := ih (by rw [hb]; omega) (by rw [if_neg (by rw [hb]; omega)] at g9; exact g9)
                           rw [hb] at ih9
                           exact R2.weak (by repeat first | exact trivial | refine And.intro rfl ?_) ih9)
                        | (have hb : beh e c = 1 := by (unfold beh; (repeat (first | rw [if_pos (by omega)] | rw [if_neg (by omega)])))
                           have ih9 := ih (by rw [hb]; omega) (by rw [if_neg (by rw [hb]; omega)] at g9; exact g9)
                           rw [hb] at ih9
                           exact R2.weak (by repeat first | exact trivial | refine And.intro rfl ?_) ih9)
                        | (have hb : beh e c = 2 := by (unfold beh; (repeat (first | rw [if_pos (by omega)] | rw [if_neg (by omega)])))
                           have ih9 := ih (by rw [hb]; omega) (by rw [if_neg (by rw [hb]; omega)] at g9; exact g9)
                           rw [hb] at ih9
                           exact R2.weak (by repeat first | exact trivial | refine And.intro rfl ?_) ih9)
                    · refine r_iload_n (Y := YX9_fault) dX9_fault_117 rfl ?_
                      refine r_ireturn (Y := YX9_fault) dX9_fault_118 ?_
                      first
                        | (exfalso; omega)
                        | (have hb : beh e c = 3 := by (unfold beh; (repeat (first | rw [if_pos (by omega)] | rw [if_neg (by omega)])))
                           rw [if_pos hb] at g9
                           exact ⟨rfl, g9⟩)
                · refine r_iload_n (Y := YX9_fault) dX9_fault_88 rfl ?_
                  refine r_i2l (Y := YX9_fault) dX9_fault_89 ?_
                  refine r_ldc2 (Y := YX9_fault) (z := 49) wc_X9_141 dX9_fault_90 (by decide) ?_
                  refine r_ldc2 (Y := YX9_fault) (z := 57) wc_X9_143 dX9_fault_93 (by decide) ?_
                  refine r_iS3I (Y := YX9_fault) ms_X9_95 dX9_fault_96 (c_in (by omega) (by omega) (by omega) (by omega) (by omega) (by omega)) (fun σ96 z96 h96 => ?_)
                  obtain ⟨rfl, h96⟩ := h96
                  refine r_if_eq (Y := YX9_fault) (tgt := 107) dX9_fault_99 (by decide) (fun c99 => ?_) (fun c99 => ?_) 
                  · refine r_iload_n (Y := YX9_fault) dX9_fault_107 rfl ?_
                    refine r_if_ne (Y := YX9_fault) (tgt := 117) dX9_fault_108 (by decide) (fun c108 => ?_) (fun c108 => ?_) 
                    · refine r_iload_n (Y := YX9_fault) dX9_fault_117 rfl ?_
                      refine r_ireturn (Y := YX9_fault) dX9_fault_118 ?_
                      first
                        | (exfalso; omega)
                        | (have hb : beh e c = 3 := by (unfold beh; (repeat (first | rw [if_pos (by omega)] | rw [if_neg (by omega)])))
                           rw [if_pos hb] at g9
                           exact ⟨rfl, g9⟩)
                    · refine r_iload_n (Y := YX9_fault) dX9_fault_111 rfl ?_
                      refine r_bipush (Y := YX9_fault) dX9_fault_112 ?_
                      refine r_icmp_eq (Y := YX9_fault) (tgt := 119) dX9_fault_114 (by decide) (fun c114 => ?_) (fun c114 => ?_) 
                      · refine r_iinc (Y := YX9_fault) dX9_fault_119 rfl ?_
                        refine r_goto (Y := YX9_fault) (tgt := 4) dX9_fault_122 (by decide) ?_
                        first
                          | (exfalso; omega)
                          | (have he0 : e = 0 ∧ c = 46 := by omega
                             obtain ⟨he0, _⟩ := he0
                             subst he0
                             have hb : beh 0 c = 0 := by (unfold beh; (repeat (first | rw [if_pos (by omega)] | rw [if_neg (by omega)])))
                             have ih9 := ih (by rw [hb]; omega) (by rw [if_neg (by rw [hb]; omega)] at g9; exact g9)
                             rw [hb] at ih9
                             exact R2.weak (by repeat first | exact trivial | refine And.intro rfl ?_) ih9)
                          | (have hb : beh e c = 0 := by (unfold beh; (repeat (first | rw [if_pos (by omega)] | rw [if_neg (by omega)])))
                             have ih9 := ih (by rw [hb]; omega) (by rw [if_neg (by rw [hb]; omega)] at g9; exact g9)
                             rw [hb] at ih9
                             exact R2.weak (by repeat first | exact trivial | refine And.intro rfl ?_) ih9)
                          | (have hb : beh e c = 1 := by (unfold beh; (repeat (first | rw [if_pos (by omega)] | rw [if_neg (by omega)])))
                             have ih9 := ih (by rw [hb]; omega) (by rw [if_neg (by rw [hb]; omega)] at g9; exact g9)
                             rw [hb] at ih9
                             exact R2.weak (by repeat first | exact trivial | refine And.intro rfl ?_) ih9)
                          | (have hb : beh e c = 2 := by (unfold beh; (repeat (first | rw [if_pos (by omega)] | rw [if_neg (by omega)])))
                             have ih9 := ih (by rw [hb]; omega) (by rw [if_neg (by rw [hb]; omega)] at g9; exact g9)
                             rw [hb] at ih9
                             exact R2.weak (by repeat first | exact trivial | refine And.intro rfl ?_) ih9)
                      · refine r_iload_n (Y := YX9_fault) dX9_fault_117 rfl ?_
                        refine r_ireturn (Y := YX9_fault) dX9_fault_118 ?_
                        first
                          | (exfalso; omega)
                          | (have hb : beh e c = 3 := by (unfold beh; (repeat (first | rw [if_pos (by omega)] | rw [if_neg (by omega)])))
                             rw [if_pos hb] at g9
                             exact ⟨rfl, g9⟩)
                  · refine r_iconst (Y := YX9_fault) dX9_fault_102 ?_
                    refine r_istore_n (Y := YX9_fault) dX9_fault_103 ?_
                    refine r_goto (Y := YX9_fault) (tgt := 119) dX9_fault_104 (by decide) ?_
                    refine r_iinc (Y := YX9_fault) dX9_fault_119 rfl ?_
                    refine r_goto (Y := YX9_fault) (tgt := 4) dX9_fault_122 (by decide) ?_
                    first
                      | (exfalso; omega)
                      | (have he0 : e = 0 ∧ c = 46 := by omega
                         obtain ⟨he0, _⟩ := he0
                         subst he0
                         have hb : beh 0 c = 0 := by (unfold beh; (repeat (first | rw [if_pos (by omega)] | rw [if_neg (by omega)])))
                         have ih9 := ih (by rw [hb]; omega) (by rw [if_neg (by rw [hb]; omega)] at g9; exact g9)
                         rw [hb] at ih9
                         exact R2.weak (by repeat first | exact trivial | refine And.intro rfl ?_) ih9)
                      | (have hb : beh e c = 0 := by (unfold beh; (repeat (first | rw [if_pos (by omega)] | rw [if_neg (by omega)])))
                         have ih9 := ih (by rw [hb]; omega) (by rw [if_neg (by rw [hb]; omega)] at g9; exact g9)
                         rw [hb] at ih9
                         exact R2.weak (by repeat first | exact trivial | refine And.intro rfl ?_) ih9)
                      | (have hb : beh e c = 1 := by (unfold beh; (repeat (first | rw [if_pos (by omega)] | rw [if_neg (by omega)])))
                         have ih9 := ih (by rw [hb]; omega) (by rw [if_neg (by rw [hb]; omega)] at g9; exact g9)
                         rw [hb] at ih9
                         exact R2.weak (by repeat first | exact trivial | refine And.intro rfl ?_) ih9)
                      | (have hb : beh e c = 2 := by (unfold beh; (repeat (first | rw [if_pos (by omega)] | rw [if_neg (by omega)])))
                         have ih9 := ih (by rw [hb]; omega) (by rw [if_neg (by rw [hb]; omega)] at g9; exact g9)
                         rw [hb] at ih9
                         exact R2.weak (by repeat first | exact trivial | refine And.intro rfl ?_) ih9)
              · refine r_iload_n (Y := YX9_fault) dX9_fault_69 rfl ?_
                refine r_i2l (Y := YX9_fault) dX9_fault_70 ?_
                refine r_ldc2 (Y := YX9_fault) (z := 48) wc_X9_137 dX9_fault_71 (by decide) ?_
                refine r_ldc2 (Y := YX9_fault) (z := 51) wc_X9_139 dX9_fault_74 (by decide) ?_
                refine r_iS3I (Y := YX9_fault) ms_X9_95 dX9_fault_77 (c_in (by omega) (by omega) (by omega) (by omega) (by omega) (by omega)) (fun σ77 z77 h77 => ?_)
                obtain ⟨rfl, h77⟩ := h77
                refine r_if_ne (Y := YX9_fault) (tgt := 102) dX9_fault_80 (by decide) (fun c80 => ?_) (fun c80 => ?_) 
                · refine r_iconst (Y := YX9_fault) dX9_fault_102 ?_
                  refine r_istore_n (Y := YX9_fault) dX9_fault_103 ?_
                  refine r_goto (Y := YX9_fault) (tgt := 119) dX9_fault_104 (by decide) ?_
                  refine r_iinc (Y := YX9_fault) dX9_fault_119 rfl ?_
                  refine r_goto (Y := YX9_fault) (tgt := 4) dX9_fault_122 (by decide) ?_
                  first
                    | (exfalso; omega)
                    | (have he0 : e = 0 ∧ c = 46 := by omega
                       obtain ⟨he0, _⟩ := he0
                       subst he0
                       have hb : beh 0 c = 0 := by (unfold beh; (repeat (first | rw [if_pos (by omega)] | rw [if_neg (by omega)])))
                       have ih9 := ih (by rw [hb]; omega) (by rw [if_neg (by rw [hb]; omega)] at g9; exact g9)
                       rw [hb] at ih9
                       exact R2.weak (by repeat first | exact trivial | refine And.intro rfl ?_) ih9)
                    | (have hb : beh e c = 0 := by (unfold beh; (repeat (first | rw [if_pos (by omega)] | rw [if_neg (by omega)])))
                       have ih9 := ih (by rw [hb]; omega) (by rw [if_neg (by rw [hb]; omega)] at g9; exact g9)
                       rw [hb] at ih9
                       exact R2.weak (by repeat first | exact trivial | refine And.intro rfl ?_) ih9)
                    | (have hb : beh e c = 1 := by (unfold beh; (repeat (first | rw [if_pos (by omega)] | rw [if_neg (by omega)])))
                       have ih9 := ih (by rw [hb]; omega) (by rw [if_neg (by rw [hb]; omega)] at g9; exact g9)
                       rw [hb] at ih9
                       exact R2.weak (by repeat first | exact trivial | refine And.intro rfl ?_) ih9)
                    | (have hb : beh e c = 2 := by (unfold beh; (repeat (first | rw [if_pos (by omega)] | rw [if_neg (by omega)])))
                       have ih9 := ih (by rw [hb]; omega) (by rw [if_neg (by rw [hb]; omega)] at g9; exact g9)
                       rw [hb] at ih9
                       exact R2.weak (by repeat first | exact trivial | refine And.intro rfl ?_) ih9)
                · refine r_iload_n (Y := YX9_fault) dX9_fault_83 rfl ?_
                  refine r_iconst (Y := YX9_fault) dX9_fault_84 ?_
                  refine r_icmp_ne (Y := YX9_fault) (tgt := 107) dX9_fault_85 (by decide) (fun c85 => ?_) (fun c85 => ?_) 
                  · refine r_iload_n (Y := YX9_fault) dX9_fault_107 rfl ?_
                    refine r_if_ne (Y := YX9_fault) (tgt := 117) dX9_fault_108 (by decide) (fun c108 => ?_) (fun c108 => ?_) 
                    · refine r_iload_n (Y := YX9_fault) dX9_fault_117 rfl ?_
                      refine r_ireturn (Y := YX9_fault) dX9_fault_118 ?_
                      first
                        | (exfalso; omega)
                        | (have hb : beh e c = 3 := by (unfold beh; (repeat (first | rw [if_pos (by omega)] | rw [if_neg (by omega)])))
                           rw [if_pos hb] at g9
                           exact ⟨rfl, g9⟩)
                    · refine r_iload_n (Y := YX9_fault) dX9_fault_111 rfl ?_
                      refine r_bipush (Y := YX9_fault) dX9_fault_112 ?_
                      refine r_icmp_eq (Y := YX9_fault) (tgt := 119) dX9_fault_114 (by decide) (fun c114 => ?_) (fun c114 => ?_) 
                      · refine r_iinc (Y := YX9_fault) dX9_fault_119 rfl ?_
                        refine r_goto (Y := YX9_fault) (tgt := 4) dX9_fault_122 (by decide) ?_
                        first
                          | (exfalso; omega)
                          | (have he0 : e = 0 ∧ c = 46 := by omega
                             obtain ⟨he0, _⟩ := he0
                             subst he0
                             have hb : beh 0 c = 0 := by (unfold beh; (repeat (first | rw [if_pos (by omega)] | rw [if_neg (by omega)])))
                             have ih9 := ih (by rw [hb]; omega) (by rw [if_neg (by rw [hb]; omega)] at g9; exact g9)
                             rw [hb] at ih9
                             exact R2.weak (by repeat first | exact trivial | refine And.intro rfl ?_) ih9)
                          | (have hb : beh e c = 0 := by (unfold beh; (repeat (first | rw [if_pos (by omega)] | rw [if_neg (by omega)])))
                             have ih9 := ih (by rw [hb]; omega) (by rw [if_neg (by rw [hb]; omega)] at g9; exact g9)
                             rw [hb] at ih9
                             exact R2.weak (by repeat first | exact trivial | refine And.intro rfl ?_) ih9)
                          | (have hb : beh e c = 1 := by (unfold beh; (repeat (first | rw [if_pos (by omega)] | rw [if_neg (by omega)])))
                             have ih9 := ih (by rw [hb]; omega) (by rw [if_neg (by rw [hb]; omega)] at g9; exact g9)
                             rw [hb] at ih9
                             exact R2.weak (by repeat first | exact trivial | refine And.intro rfl ?_) ih9)
                          | (have hb : beh e c = 2 := by (unfold beh; (repeat (first | rw [if_pos (by omega)] | rw [if_neg (by omega)])))
                             have ih9 := ih (by rw [hb]; omega) (by rw [if_neg (by rw [hb]; omega)] at g9; exact g9)
                             rw [hb] at ih9
                             exact R2.weak (by repeat first | exact trivial | refine And.intro rfl ?_) ih9)
                      · refine r_iload_n (Y := YX9_fault) dX9_fault_117 rfl ?_
                        refine r_ireturn (Y := YX9_fault) dX9_fault_118 ?_
                        first
                          | (exfalso; omega)
                          | (have hb : beh e c = 3 := by (unfold beh; (repeat (first | rw [if_pos (by omega)] | rw [if_neg (by omega)])))
                             rw [if_pos hb] at g9
                             exact ⟨rfl, g9⟩)
                  · refine r_iload_n (Y := YX9_fault) dX9_fault_88 rfl ?_
                    refine r_i2l (Y := YX9_fault) dX9_fault_89 ?_
                    refine r_ldc2 (Y := YX9_fault) (z := 49) wc_X9_141 dX9_fault_90 (by decide) ?_
                    refine r_ldc2 (Y := YX9_fault) (z := 57) wc_X9_143 dX9_fault_93 (by decide) ?_
                    refine r_iS3I (Y := YX9_fault) ms_X9_95 dX9_fault_96 (c_in (by omega) (by omega) (by omega) (by omega) (by omega) (by omega)) (fun σ96 z96 h96 => ?_)
                    obtain ⟨rfl, h96⟩ := h96
                    refine r_if_eq (Y := YX9_fault) (tgt := 107) dX9_fault_99 (by decide) (fun c99 => ?_) (fun c99 => ?_) 
                    · refine r_iload_n (Y := YX9_fault) dX9_fault_107 rfl ?_
                      refine r_if_ne (Y := YX9_fault) (tgt := 117) dX9_fault_108 (by decide) (fun c108 => ?_) (fun c108 => ?_) 
                      · refine r_iload_n (Y := YX9_fault) dX9_fault_117 rfl ?_
                        refine r_ireturn (Y := YX9_fault) dX9_fault_118 ?_
                        first
                          | (exfalso; omega)
                          | (have hb : beh e c = 3 := by (unfold beh; (repeat (first | rw [if_pos (by omega)] | rw [if_neg (by omega)])))
                             rw [if_pos hb] at g9
                             exact ⟨rfl, g9⟩)
                      · refine r_iload_n (Y := YX9_fault) dX9_fault_111 rfl ?_
                        refine r_bipush (Y := YX9_fault) dX9_fault_112 ?_
                        refine r_icmp_eq (Y := YX9_fault) (tgt := 119) dX9_fault_114 (by decide) (fun c114 => ?_) (fun c114 => ?_) 
                        · refine r_iinc (Y := YX9_fault) dX9_fault_119 rfl ?_
                          refine r_goto (Y := YX9_fault) (tgt := 4) dX9_fault_122 (by decide) ?_
                          first
                            | (exfalso; omega)
                            | (have he0 : e = 0 ∧ c = 46 := by omega
                               obtain ⟨he0, _⟩ := he0
                               subst he0
                               have hb : beh 0 c = 0 := by (unfold beh; (repeat (first | rw [if_pos (by omega)] | rw [if_neg (by omega)])))
                               have ih9 := ih (by rw [hb]; omega) (by rw [if_neg (by rw [hb]; omega)] at g9; exact g9)
                               rw [hb] at ih9
                               exact R2.weak (by repeat first | exact trivial | refine And.intro rfl ?_) ih9)
                            | (have hb : beh e c = 0 := by (unfold beh; (repeat (first | rw [if_pos (by omega)] | rw [if_neg (by omega)])))
                               have ih9 := ih (by rw [hb]; omega) (by rw [if_neg (by rw [hb]; omega)] at g9; exact g9)
                               rw [hb] at ih9
                               exact R2.weak (by repeat first | exact trivial | refine And.intro rfl ?_) ih9)
                            | (have hb : beh e c = 1 := by (unfold beh; (repeat (first | rw [if_pos (by omega)] | rw [if_neg (by omega)])))
                               have ih9 := ih (by rw [hb]; omega) (by rw [if_neg (by rw [hb]; omega)] at g9; exact g9)
                               rw [hb] at ih9
                               exact R2.weak (by repeat first | exact trivial | refine And.intro rfl ?_) ih9)
                            | (have hb : beh e c = 2 := by (unfold beh; (repeat (first | rw [if_pos (by omega)] | rw [if_neg (by omega)])))
                               have ih9 := ih (by rw [hb]; omega) (by rw [if_neg (by rw [hb]; omega)] at g9; exact g9)
                               rw [hb] at ih9
                               exact R2.weak (by repeat first | exact trivial | refine And.intro rfl ?_) ih9)
                        · refine r_iload_n (Y := YX9_fault) dX9_fault_117 rfl ?_
                          refine r_ireturn (Y := YX9_fault) dX9_fault_118 ?_
                          first
                            | (exfalso; omega)
                            | (have hb : beh e c = 3 := by (unfold beh; (repeat (first | rw [if_pos (by omega)] | rw [if_neg (by omega)])))
                               rw [if_pos hb] at g9
                               exact ⟨rfl, g9⟩)
                    · refine r_iconst (Y := YX9_fault) dX9_fault_102 ?_
                      refine r_istore_n (Y := YX9_fault) dX9_fault_103 ?_
                      refine r_goto (Y := YX9_fault) (tgt := 119) dX9_fault_104 (by decide) ?_
                      refine r_iinc (Y := YX9_fault) dX9_fault_119 rfl ?_
                      refine r_goto (Y := YX9_fault) (tgt := 4) dX9_fault_122 (by decide) ?_
                      first
                        | (exfalso; omega)
                        | (have he0 : e = 0 ∧ c = 46 := by omega
                           obtain ⟨he0, _⟩ := he0
                           subst he0
                           have hb : beh 0 c = 0 := by (unfold beh; (repeat (first | rw [if_pos (by omega)] | rw [if_neg (by omega)])))
                           have ih9 := ih (by rw [hb]; omega) (by rw [if_neg (by rw [hb]; omega)] at g9; exact g9)
                           rw [hb] at ih9
                           exact R2.weak (by repeat first | exact trivial | refine And.intro rfl ?_) ih9)
                        | (have hb : beh e c = 0 := by (unfold beh; (repeat (first | rw [if_pos (by omega)] | rw [if_neg (by omega)])))
                           have ih9 := ih (by rw [hb]; omega) (by rw [if_neg (by rw [hb]; omega)] at g9; exact g9)
                           rw [hb] at ih9
                           exact R2.weak (by repeat first | exact trivial | refine And.intro rfl ?_) ih9)
                        | (have hb : beh e c = 1 := by (unfold beh; (repeat (first | rw [if_pos (by omega)] | rw [if_neg (by omega)])))
                           have ih9 := ih (by rw [hb]; omega) (by rw [if_neg (by rw [hb]; omega)] at g9; exact g9)
                           rw [hb] at ih9
                           exact R2.weak (by repeat first | exact trivial | refine And.intro rfl ?_) ih9)
                        | (have hb : beh e c = 2 := by (unfold beh; (repeat (first | rw [if_pos (by omega)] | rw [if_neg (by omega)])))
                           have ih9 := ih (by rw [hb]; omega) (by rw [if_neg (by rw [hb]; omega)] at g9; exact g9)
                           rw [hb] at ih9
                           exact R2.weak (by repeat first | exact trivial | refine And.intro rfl ?_) ih9)
            · refine r_iconst (Y := YX9_fault) dX9_fault_59 ?_
              refine r_istore_n (Y := YX9_fault) dX9_fault_60 ?_
              refine r_goto (Y := YX9_fault) (tgt := 119) dX9_fault_61 (by decide) ?_
              refine r_iinc (Y := YX9_fault) dX9_fault_119 rfl ?_
              refine r_goto (Y := YX9_fault) (tgt := 4) dX9_fault_122 (by decide) ?_
              first
                | (exfalso; omega)
                | (have he0 : e = 0 ∧ c = 46 := by omega
                   obtain ⟨he0, _⟩ := he0
                   subst he0
                   have hb : beh 0 c = 0 := by (unfold beh; (repeat (first | rw [if_pos (by omega)] | rw [if_neg (by omega)])))
                   have ih9 := ih (by rw [hb]; omega) (by rw [if_neg (by rw [hb]; omega)] at g9; exact g9)
                   rw [hb] at ih9
                   exact R2.weak (by repeat first | exact trivial | refine And.intro rfl ?_) ih9)
                | (have hb : beh e c = 0 := by (unfold beh; (repeat (first | rw [if_pos (by omega)] | rw [if_neg (by omega)])))
                   have ih9 := ih (by rw [hb]; omega) (by rw [if_neg (by rw [hb]; omega)] at g9; exact g9)
                   rw [hb] at ih9
                   exact R2.weak (by repeat first | exact trivial | refine And.intro rfl ?_) ih9)
                | (have hb : beh e c = 1 := by (unfold beh; (repeat (first | rw [if_pos (by omega)] | rw [if_neg (by omega)])))
                   have ih9 := ih (by rw [hb]; omega) (by rw [if_neg (by rw [hb]; omega)] at g9; exact g9)
                   rw [hb] at ih9
                   exact R2.weak (by repeat first | exact trivial | refine And.intro rfl ?_) ih9)
                | (have hb : beh e c = 2 := by (unfold beh; (repeat (first | rw [if_pos (by omega)] | rw [if_neg (by omega)])))
                   have ih9 := ih (by rw [hb]; omega) (by rw [if_neg (by rw [hb]; omega)] at g9; exact g9)
                   rw [hb] at ih9
                   exact R2.weak (by repeat first | exact trivial | refine And.intro rfl ?_) ih9)
      · refine r_iconst (Y := YX9_fault) dX9_fault_37 ?_
        refine r_istore_n (Y := YX9_fault) dX9_fault_38 ?_
        refine r_goto (Y := YX9_fault) (tgt := 119) dX9_fault_39 (by decide) ?_
        refine r_iinc (Y := YX9_fault) dX9_fault_119 rfl ?_
        refine r_goto (Y := YX9_fault) (tgt := 4) dX9_fault_122 (by decide) ?_
        first
          | (exfalso; omega)
          | (have he0 : e = 0 ∧ c = 46 := by omega
             obtain ⟨he0, _⟩ := he0
             subst he0
             have hb : beh 0 c = 0 := by (unfold beh; (repeat (first | rw [if_pos (by omega)] | rw [if_neg (by omega)])))
             have ih9 := ih (by rw [hb]; omega) (by rw [if_neg (by rw [hb]; omega)] at g9; exact g9)
             rw [hb] at ih9
             exact R2.weak (by repeat first | exact trivial | refine And.intro rfl ?_) ih9)
          | (have hb : beh e c = 0 := by (unfold beh; (repeat (first | rw [if_pos (by omega)] | rw [if_neg (by omega)])))
             have ih9 := ih (by rw [hb]; omega) (by rw [if_neg (by rw [hb]; omega)] at g9; exact g9)
             rw [hb] at ih9
             exact R2.weak (by repeat first | exact trivial | refine And.intro rfl ?_) ih9)
          | (have hb : beh e c = 1 := by (unfold beh; (repeat (first | rw [if_pos (by omega)] | rw [if_neg (by omega)])))
             have ih9 := ih (by rw [hb]; omega) (by rw [if_neg (by rw [hb]; omega)] at g9; exact g9)
             rw [hb] at ih9
             exact R2.weak (by repeat first | exact trivial | refine And.intro rfl ?_) ih9)
          | (have hb : beh e c = 2 := by (unfold beh; (repeat (first | rw [if_pos (by omega)] | rw [if_neg (by omega)])))
             have ih9 := ih (by rw [hb]; omega) (by rw [if_neg (by rw [hb]; omega)] at g9; exact g9)
             rw [hb] at ih9
             exact R2.weak (by repeat first | exact trivial | refine And.intro rfl ?_) ih9)
theorem c_X9_faultF {σ : ab_S} {m : Int} {G : GS} (hm : kd_ m 9 37) (hM : HM σ m G) (hG : OKG G) : C2 YX9_fault 1 σ [rf m] (PI fun σ' z => z = (faultF G).1 ∧ HM σ' m (faultF G).2 ∧ FY σ σ' m) := C2.mono (c_X9_fault hm hM.2.2.2.1 hG.2.1) (fun τ v ⟨z, e, h1, h2⟩ => ⟨z, e, h2, by subst h1; exact hM, fun k i _ => by rw [h1]⟩)
