/-! the model whole: shares -/
theorem lcm_0 {x : Int} (h : 0 ≤ x) : (lcm x 0 = 0 ∧ x = 0) ∨ (lcm x 0 = 1 ∧ 0 < x) := by
  rcases lcm_cases x 0 with q | q | q <;> omega
set_option maxRecDepth 20000 in
theorem c_X9_share {σ : ab_S} {m : Int} {G : GS} (hm : kd_ m 9 37) (hM : HM σ m G) (hG : OKG G) {p : Int} (hp1 : -2147483648 ≤ p) (hp2 : p ≤ 2147483647) {u : Int} (hu1 : -2147483648 ≤ u) (hu2 : u ≤ 2147483647) : C2 YX9_share 2 σ [rf m, iv p, iv u] (PL fun σ' z => z = (shareF G p u).1 ∧ HM σ' m (shareF G p u).2 ∧ FY σ σ' m) := by
  obtain ⟨k1, k2, k3, k4, k5, k6, k7, k8, k9, k10, k11, k12, k13, k14, k15, k16, k17, k18, k19, k20, k21, k22, k23, k24, k25, k26⟩ := kd_model hm
  have hA := hM.1
  have hW := hG.1.1.1
  have hWL := hG.1.1.2
  have hsb := shW_bd hW
  refine C2.of (by decide +kernel) (Nat.le_of_ble_eq_true rfl) ?_
  refine r_iload_n (Y := YX9_share) dX9_share_0 rfl ?_
  refine r_iS1I (Y := YX9_share) ms_X9_118 dX9_share_1 (c_isMonk (by omega) (by omega)) (fun σ1 z1 h1 => ?_)
  obtain ⟨rfl, h1⟩ := h1
  refine r_if_ne (Y := YX9_share) (tgt := 11) dX9_share_4 (by decide) (fun c4 => ?_) (fun c4 => ?_) 
  · refine r_iload_n (Y := YX9_share) dX9_share_11 rfl ?_
    refine r_i2l (Y := YX9_share) dX9_share_12 ?_
    refine r_lconst (Y := YX9_share) (v := 0) dX9_share_13 rfl ?_
    refine r_lconst (Y := YX9_share) (v := 1) dX9_share_14 rfl ?_
    refine r_iS3I (Y := YX9_share) ms_X9_95 dX9_share_15 (c_in (by omega) (by omega) (by omega) (by omega) (by omega) (by omega)) (fun σ15 z15 h15 => ?_)
    obtain ⟨rfl, h15⟩ := h15
    refine r_if_ne (Y := YX9_share) (tgt := 25) dX9_share_18 (by decide) (fun c18 => ?_) (fun c18 => ?_) 
    · refine r_aload_n (Y := YX9_share) dX9_share_25 rfl ?_
      refine r_iV0V (Y := YX9_share) mv_X9_159 dX9_share_26 (c_layNow hm hA hW) (by assumption) (fun σ26 h26 => ?_)
      obtain ⟨t1, t2⟩ := h26
      have hM2 := hM.fm t2
      refine r_lconst (Y := YX9_share) (v := 0) dX9_share_29 rfl ?_
      refine r_lstore_n (Y := YX9_share) dX9_share_30 ?_
      refine r_lconst (Y := YX9_share) (v := 0) dX9_share_31 rfl ?_
      refine r_lstore (Y := YX9_share) dX9_share_32 ?_
      refine r_iconst (Y := YX9_share) dX9_share_34 ?_
      refine r_istore (Y := YX9_share) dX9_share_35 ?_
      have hon := shO_nn hW (m := p) (by omega) (by omega)
      have hol := shO_le hW (m := p) (by omega) (by omega)
      have hsm := hW.2.1 p (by omega) (by omega)
      suffices hloop : ∀ (k n : Nat), n + k = 4 → R2 YX9_share 2 σ26 37 [some (rf m), some (iv p), some (iv u), some (lgv (sumN (fun r => powL (aS G.1.1) (aR G.1.1 r)) n)), none, some (lgv (inN G.1.1 p n * aS G.1.1 p)), none, some (iv n), none, none, none, none, none] [] (PL fun σ' z => z = (shareF G p u).1 ∧ HM σ' m (shareF G p u).2 ∧ FY σ15 σ' m) from by
        have h0 := hloop 4 0 rfl
        rw [show inN G.1.1 p 0 * aS G.1.1 p = 0 from Int.zero_mul _] at h0
        exact R2.weak (by repeat first | exact trivial | refine And.intro rfl ?_) h0
      intro k
      induction k with
      | zero =>
        intro n e1
        have e2 : n = 4 := by omega
        subst e2
        rw [← shW_eq hW]
        change R2 _ _ _ _ [_, _, _, _, _, some (lgv (shO G.1.1 p)), _, _, _, _, _, _, _] _ _
        have hl0 := lcm_0 hsb.1
        obtain ⟨u0, hu0⟩ : ∃ u0 : Nat, shW G.1.1 = u0 := ⟨(shW G.1.1).toNat, by omega⟩
        obtain ⟨l0, hl0'⟩ : ∃ l0 : Nat, shO G.1.1 p = l0 := ⟨(shO G.1.1 p).toNat, by omega⟩
        refine r_iload (Y := YX9_share) dX9_share_37 rfl ?_
        refine r_iconst (Y := YX9_share) dX9_share_39 ?_
        refine r_icmp_ge (Y := YX9_share) (tgt := 79) dX9_share_40 (by decide) (fun c40 => ?_) (fun c40 => absurd c40 (by omega)) 
        refine r_lload_n (Y := YX9_share) dX9_share_79 rfl ?_
        refine r_lconst (Y := YX9_share) (v := 0) dX9_share_80 rfl ?_
        refine r_lcmp (Y := YX9_share) dX9_share_81 ?_
        refine r_if_ne (Y := YX9_share) (tgt := 89) dX9_share_82 (by decide) (fun c82 => ?_) (fun c82 => ?_) 
        · refine r_lload_n (Y := YX9_share) dX9_share_89 rfl ?_
          refine r_lstore (Y := YX9_share) dX9_share_90 ?_
          refine r_lload (Y := YX9_share) dX9_share_92 rfl ?_
          refine r_lstore (Y := YX9_share) dX9_share_94 ?_
          suffices hg : ∀ (n y x : Nat), y ≤ n → 0 < x → x ≤ 30000 → y ≤ 30000 → Nat.gcd x y = Nat.gcd u0 l0 → R2 YX9_share 2 σ26 96 [some (rf m), some (iv p), some (iv u), some (lgv (shW G.1.1)), none, some (lgv (shO G.1.1 p)), none, some (lgv x), none, some (lgv y), none, none, none] [] (PL fun σ' z => z = (shareF G p u).1 ∧ HM σ' m (shareF G p u).2 ∧ FY σ15 σ' m) from by
            have h0 := hg l0 l0 u0 (Nat.le_refl _) (by omega) (by omega) (by omega) rfl
            rw [← hu0, ← hl0'] at h0
            exact R2.weak (by repeat first | exact trivial | refine And.intro rfl ?_) h0
          intro n
          induction n with
          | zero =>
            intro y x g1 g2 g3 g4 g5
            have g6 : y = 0 := by omega
            subst g6
            rw [Nat.gcd_zero_right] at g5
            have hly := lcm_0 (x := ((0 : Nat) : Int)) (by omega)
            have hdv : ∀ q : Nat, (0 : Int) ≤ (q : Int) / (x : Nat) ∧ (q : Int) / (x : Nat) ≤ q := fun q => ⟨Int.ediv_nonneg (by omega) (by omega), Int.ediv_le_self _ (by omega)⟩
            have hd1 := hdv u0
            have hd2 := hdv l0
            refine r_lload (Y := YX9_share) dX9_share_96 rfl ?_
            refine r_lconst (Y := YX9_share) (v := 0) dX9_share_98 rfl ?_
            refine r_lcmp (Y := YX9_share) dX9_share_99 ?_
            refine r_if_eq (Y := YX9_share) (tgt := 121) dX9_share_100 (by decide) (fun c100 => ?_) (fun c100 => absurd c100 (by omega)) 
            refine r_iload_n (Y := YX9_share) dX9_share_121 rfl ?_
            refine r_if_ne (Y := YX9_share) (tgt := 133) dX9_share_122 (by decide) (fun c122 => ?_) (fun c122 => ?_) 
            · refine r_lload_n (Y := YX9_share) dX9_share_133 rfl ?_
              refine r_lload (Y := YX9_share) dX9_share_134 rfl ?_
              refine r_ldiv (Y := YX9_share) dX9_share_136 ?_
              refine r_lreturn (Y := YX9_share) dX9_share_137 ?_
              refine ⟨?_, hM2, t2.fy⟩
              show _ = shareZ G.1.1 p u
              unfold shareZ
              (repeat (first | rw [if_pos (by omega)] | rw [if_neg (by omega)]))
              rw [hu0, hl0', Int.toNat_natCast, Int.toNat_natCast, ← g5]
            · refine r_lload (Y := YX9_share) dX9_share_125 rfl ?_
              refine r_lload (Y := YX9_share) dX9_share_127 rfl ?_
              refine r_ldiv (Y := YX9_share) dX9_share_129 ?_
              refine r_goto (Y := YX9_share) (tgt := 137) dX9_share_130 (by decide) ?_
              refine r_lreturn (Y := YX9_share) dX9_share_137 ?_
              refine ⟨?_, hM2, t2.fy⟩
              show _ = shareZ G.1.1 p u
              unfold shareZ
              (repeat (first | rw [if_pos (by omega)] | rw [if_neg (by omega)]))
              rw [hu0, hl0', Int.toNat_natCast, Int.toNat_natCast, ← g5]
          | succ n ih =>
            intro y x g1 g2 g3 g4 g5
            have hly := lcm_0 (x := (y : Int)) (by omega)
            by_cases g6 : y = 0
            · subst g6
              rw [Nat.gcd_zero_right] at g5
              refine r_lload (Y := YX9_share) dX9_share_96 rfl ?_
              refine r_lconst (Y := YX9_share) (v := 0) dX9_share_98 rfl ?_
              refine r_lcmp (Y := YX9_share) dX9_share_99 ?_
              refine r_if_eq (Y := YX9_share) (tgt := 121) dX9_share_100 (by decide) (fun c100 => ?_) (fun c100 => absurd c100 (by omega)) 
              refine r_iload_n (Y := YX9_share) dX9_share_121 rfl ?_
              refine r_if_ne (Y := YX9_share) (tgt := 133) dX9_share_122 (by decide) (fun c122 => ?_) (fun c122 => ?_) 
              · refine r_lload_n (Y := YX9_share) dX9_share_133 rfl ?_
                refine r_lload (Y := YX9_share) dX9_share_134 rfl ?_
                refine r_ldiv (Y := YX9_share) dX9_share_136 ?_
                refine r_lreturn (Y := YX9_share) dX9_share_137 ?_
                refine ⟨?_, hM2, t2.fy⟩
                show _ = shareZ G.1.1 p u
                unfold shareZ
                (repeat (first | rw [if_pos (by omega)] | rw [if_neg (by omega)]))
                rw [hu0, hl0', Int.toNat_natCast, Int.toNat_natCast, ← g5]
              · refine r_lload (Y := YX9_share) dX9_share_125 rfl ?_
                refine r_lload (Y := YX9_share) dX9_share_127 rfl ?_
                refine r_ldiv (Y := YX9_share) dX9_share_129 ?_
                refine r_goto (Y := YX9_share) (tgt := 137) dX9_share_130 (by decide) ?_
                refine r_lreturn (Y := YX9_share) dX9_share_137 ?_
                refine ⟨?_, hM2, t2.fy⟩
                show _ = shareZ G.1.1 p u
                unfold shareZ
                (repeat (first | rw [if_pos (by omega)] | rw [if_neg (by omega)]))
                rw [hu0, hl0', Int.toNat_natCast, Int.toNat_natCast, ← g5]
            · have g7 : x % y < y := Nat.mod_lt _ (by omega)
              have ih := ih (x % y) y (by omega) (by omega) (by omega) (by omega) (by rw [← g5, Nat.gcd_comm x y, Nat.gcd_rec y x, Nat.gcd_comm])
              rw [Int.natCast_emod] at ih
              refine r_lload (Y := YX9_share) dX9_share_96 rfl ?_
              refine r_lconst (Y := YX9_share) (v := 0) dX9_share_98 rfl ?_
              refine r_lcmp (Y := YX9_share) dX9_share_99 ?_
              refine r_if_eq (Y := YX9_share) (tgt := 121) dX9_share_100 (by decide) (fun c100 => absurd c100 (by omega)) (fun c100 => ?_) 
              refine r_lload (Y := YX9_share) dX9_share_103 rfl ?_
              refine r_lload (Y := YX9_share) dX9_share_105 rfl ?_
              refine r_lrem (Y := YX9_share) dX9_share_107 ?_
              refine r_lstore (Y := YX9_share) dX9_share_108 ?_
              refine r_lload (Y := YX9_share) dX9_share_110 rfl ?_
              refine r_lstore (Y := YX9_share) dX9_share_112 ?_
              refine r_lload (Y := YX9_share) dX9_share_114 rfl ?_
              refine r_lstore (Y := YX9_share) dX9_share_116 ?_
              refine r_goto (Y := YX9_share) (tgt := 96) dX9_share_118 (by decide) ?_
              exact R2.weak (by repeat first | exact trivial | refine And.intro rfl ?_) ih
        · refine r_ldc2 (Y := YX9_share) (z := -1000000000000000003) wc_X9_200 dX9_share_85 (by decide) ?_
          refine r_lreturn (Y := YX9_share) dX9_share_88 ?_
          refine ⟨?_, hM2, t2.fy⟩
          show _ = shareZ G.1.1 p u
          unfold shareZ
          (repeat (first | rw [if_pos (by omega)] | rw [if_neg (by omega)]))
      | succ k ih =>
        intro n e1
        have hpn := powL_bd hW.2.1 (hW.2.2.2.1 n (by omega) (by omega)).2
        have hl8 := (hW.2.2.2.1 n (by omega) (by omega)).1
        have hln := lenM_bd (m := p) (hW.2.2.2.1 n (by omega) (by omega)).2
        have hmb := mul_bd (h := aS G.1.1 p) (w := lenM p (aR G.1.1 n)) (H := 9) (V := 792) (by omega) (by omega) (by omega) (by omega)
        have ih := ih (n + 1) (by omega)
        have e3 : inN G.1.1 p (n + 1) * aS G.1.1 p = inN G.1.1 p n * aS G.1.1 p + aS G.1.1 p * lenM p (aR G.1.1 n) := by
          show (inN G.1.1 p n + lenM p (aR G.1.1 n)) * aS G.1.1 p = _
          rw [Int.add_mul, Int.mul_comm (lenM p (aR G.1.1 n))]
        rw [e3] at ih
        refine r_iload (Y := YX9_share) dX9_share_37 rfl ?_
        refine r_iconst (Y := YX9_share) dX9_share_39 ?_
        refine r_icmp_ge (Y := YX9_share) (tgt := 79) dX9_share_40 (by decide) (fun c40 => absurd c40 (by omega)) (fun c40 => ?_) 
        refine r_lload_n (Y := YX9_share) dX9_share_43 rfl ?_
        refine r_aload_n (Y := YX9_share) dX9_share_44 rfl ?_
        refine r_iload (Y := YX9_share) dX9_share_45 rfl ?_
        refine r_iV1I (Y := YX9_share) mv_X9_114 dX9_share_47 (c_X9_powerOf hm (by omega) (by omega) t1 hW) (by assumption) (fun σ47 z47 h47 => ?_)
        obtain ⟨e47, rfl⟩ := h47
        subst e47
        refine r_i2l (Y := YX9_share) dX9_share_50 ?_
        refine r_ladd (Y := YX9_share) dX9_share_51 ?_
        refine r_lstore_n (Y := YX9_share) dX9_share_52 ?_
        refine r_lload (Y := YX9_share) dX9_share_53 rfl ?_
        refine r_aload_n (Y := YX9_share) dX9_share_55 rfl ?_
        refine r_getR (Y := YX9_share) (δz := 2) fl_X9_13 dX9_share_56 rfl rfl ?_
        refine r_iload_n (Y := YX9_share) dX9_share_59 rfl ?_
        refine r_iaV (Y := YX9_share) (v := aS G.1.1 p) dX9_share_60 (t1.2.1 p (by omega) (by omega)) ?_
        refine r_aload_n (Y := YX9_share) dX9_share_61 rfl ?_
        refine r_iload_n (Y := YX9_share) dX9_share_62 rfl ?_
        refine r_iload (Y := YX9_share) dX9_share_63 rfl ?_
        refine r_iV2I (Y := YX9_share) mv_X9_197 dX9_share_65 (c_X9_inchesOf hm (by omega) (by omega) (by omega) (by omega) t1 hW) (by assumption) (fun σ65 z65 h65 => ?_)
        obtain ⟨e65, rfl⟩ := h65
        subst e65
        refine r_imul (Y := YX9_share) dX9_share_68 ?_
        refine r_i2l (Y := YX9_share) dX9_share_69 ?_
        refine r_ladd (Y := YX9_share) dX9_share_70 ?_
        refine r_lstore (Y := YX9_share) dX9_share_71 ?_
        refine r_iinc (Y := YX9_share) dX9_share_73 rfl ?_
        refine r_goto (Y := YX9_share) (tgt := 37) dX9_share_76 (by decide) ?_
        exact R2.weak (by repeat first | exact trivial | refine And.intro rfl ?_) ih
    · refine r_ldc2 (Y := YX9_share) (z := -1000000000000000002) wc_X9_195 dX9_share_21 (by decide) ?_
      refine r_lreturn (Y := YX9_share) dX9_share_24 ?_
      refine ⟨?_, hM, fun _ _ _ => rfl⟩
      show _ = shareZ G.1.1 p u
      unfold shareZ
      (repeat (first | rw [if_pos (by omega)] | rw [if_neg (by omega)]))
  · refine r_ldc2 (Y := YX9_share) (z := -1000000000000000001) wc_X9_193 dX9_share_7 (by decide) ?_
    refine r_lreturn (Y := YX9_share) dX9_share_10 ?_
    refine ⟨?_, hM, fun _ _ _ => rfl⟩
    show _ = shareZ G.1.1 p u
    unfold shareZ
    (repeat (first | rw [if_pos (by omega)] | rw [if_neg (by omega)]))
