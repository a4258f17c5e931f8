/-! the model whole: which ropes break; shares -/
def brkB (h : Int) (c : Nat → Bool) : Nat → Int
  | 0 => 0
  | n + 1 => if bt h n ≠ 0 ∧ c n = true then bor (brkB h c n) (bsl 1 n) else brkB h c n
theorem brkN_B {P : Int → Int} {h load : Int} : ∀ n : Nat, brkN P h load n = brkB h (fun i => decide (P (i : Nat) * pc6 h < load)) n
  | 0 => rfl
  | n + 1 => by
    have ih := brkN_B (P := P) (h := h) (load := load) n
    show (if bt h n ≠ 0 ∧ P n * pc6 h < load then bor (brkN P h load n) (bsl 1 n) else brkN P h load n) = if bt h n ≠ 0 ∧ decide (P n * pc6 h < load) = true then bor (brkB h (fun i => decide (P (i : Nat) * pc6 h < load)) n) (bsl 1 n) else brkB h (fun i => decide (P (i : Nat) * pc6 h < load)) n
    rw [ih]
    by_cases e : P n * pc6 h < load
    · rw [decide_eq_true e]
      by_cases e2 : bt h n ≠ 0
      · rw [if_pos ⟨e2, e⟩, if_pos ⟨e2, rfl⟩]
      · rw [if_neg (fun x => e2 x.1), if_neg (fun x => e2 x.1)]
    · rw [decide_eq_false e, if_neg (fun x => e x.2), if_neg (fun x => by cases x.2)]
theorem brkB_congr {h : Int} {c d : Nat → Bool} (hc : ∀ i : Nat, i < 4 → c i = d i) : ∀ n : Nat, n ≤ 4 → brkB h c n = brkB h d n
  | 0, _ => rfl
  | n + 1, hn => by
    show (if bt h n ≠ 0 ∧ c n = true then bor (brkB h c n) (bsl 1 n) else brkB h c n) = if bt h n ≠ 0 ∧ d n = true then bor (brkB h d n) (bsl 1 n) else brkB h d n
    rw [brkB_congr hc n (by omega), hc n (by omega)]
def b4 (c0 c1 c2 c3 : Bool) (i : Nat) : Bool := if i = 0 then c0 else if i = 1 then c1 else if i = 2 then c2 else c3
theorem brkB_dec : ∀ h : Nat, h < 16 → ∀ c0 c1 c2 c3 : Bool, brkB h (b4 c0 c1 c2 c3) 4 = 0 ∨ pc6 (ban h (bxo (brkB h (b4 c0 c1 c2 c3) 4) (-1))) < pc6 h := by decide +kernel
theorem b4_eq (c : Nat → Bool) : ∀ i : Nat, i < 4 → c i = b4 (c 0) (c 1) (c 2) (c 3) i
  | 0, _ => rfl
  | 1, _ => rfl
  | 2, _ => rfl
  | 3, _ => rfl
  | n + 4, h => by omega
theorem brk_less {P : Int → Int} {h load : Int} (h1 : 0 ≤ h) (h2 : h < 16) : brkN P h load 4 = 0 ∨ pc6 (ban h (bxo (brkN P h load 4) (-1))) < pc6 h := by
  rw [brkN_B, brkB_congr (b4_eq _) 4 (Nat.le_refl 4)]
  have := brkB_dec h.toNat (by omega) (decide (P ((0 : Nat) : Int) * pc6 h < load)) (decide (P ((1 : Nat) : Int) * pc6 h < load)) (decide (P ((2 : Nat) : Int) * pc6 h < load)) (decide (P ((3 : Nat) : Int) * pc6 h < load))
  rw [show ((h.toNat : Nat) : Int) = h by omega] at this
  exact this
theorem id16 : ∀ x : Nat, x < 16 → ban x (bxo 0 (-1)) = x ∧ bor x 0 = x := by decide +kernel
theorem id16b {x : Int} (h1 : 0 ≤ x) (h2 : x < 16) : ban x (bxo 0 (-1)) = x ∧ bor x 0 = x := by
  have := id16 x.toNat (by omega)
  rwa [show ((x.toNat : Nat) : Int) = x by omega] at this
theorem rd_stop {P : Int → Int} {load : Int} {j : Nat} (h : brkN P (rdN P load j).1 load 4 = 0) : rdN P load (j + 1) = rdN P load j := by
  have hb := rdN_bd (P := P) (load := load) j
  show rdStep P load (rdN P load j) = rdN P load j
  generalize rdN P load j = q at h hb
  unfold rdStep
  rw [h, (id16b hb.1.1 hb.1.2).1, (id16b hb.2.1 hb.2.2).2]
theorem rd_stay {P : Int → Int} {load : Int} {j : Nat} (h : brkN P (rdN P load j).1 load 4 = 0) : ∀ k : Nat, rdN P load (j + k) = rdN P load j
  | 0 => rfl
  | k + 1 => by
    have ih := rd_stay h k
    have h1 := rd_stop (P := P) (load := load) (j := j + k) (by rw [ih]; exact h)
    exact h1.trans ih
set_option maxRecDepth 20000 in
theorem c_X9_broken {σ : ab_S} {m : Int} {G : GS} (hm : kd_ m 9 37) (hM : HM σ m G) (hG : OKG G) {l : Int} (hl1 : -2147483648 ≤ l) (hl2 : l ≤ 2147483647) : C2 YX9_broken 1 σ [rf m, iv l] (PI fun σ' z => z = (brokenF G l).1 ∧ HM σ' m (brokenF G l).2 ∧ FY σ σ' m) := by
  obtain ⟨k1, k2, k3, k4, k5, k6, k7, k8, k9, k10, k11, k12, k13, k14, k15, k16, k17, k18, k19, k20, k21, k22, k23, k24, k25, k26⟩ := kd_model hm
  have hA := hM.1
  have hW := hG.1.1.1
  have hWL := hG.1.1.2
  have hPb : ∀ i : Int, 0 ≤ i → i < 4 → 0 ≤ powL (aS G.1.1) (aR G.1.1 i) ∧ powL (aS G.1.1) (aR G.1.1 i) ≤ 7128 := fun i h1 h2 => by
    have h3 := hW.2.2.2.1 i h1 h2
    have h4 := powL_bd hW.2.1 h3.2
    have h5 := h3.1
    omega
  refine C2.of (by decide +kernel) (Nat.le_of_ble_eq_true rfl) ?_
  refine r_iload_n (Y := YX9_broken) dX9_broken_0 rfl ?_
  refine r_i2l (Y := YX9_broken) dX9_broken_1 ?_
  refine r_lconst (Y := YX9_broken) (v := 0) dX9_broken_2 rfl ?_
  refine r_ldc2 (Y := YX9_broken) (z := 99999) wc_X9_188 dX9_broken_3 (by decide) ?_
  refine r_iS3I (Y := YX9_broken) ms_X9_95 dX9_broken_6 (c_in (by omega) (by omega) (by omega) (by omega) (by omega) (by omega)) (fun σ6 z6 h6 => ?_)
  obtain ⟨rfl, h6⟩ := h6
  refine r_if_ne (Y := YX9_broken) (tgt := 15) dX9_broken_9 (by decide) (fun c9 => ?_) (fun c9 => ?_) 
  · refine r_aload_n (Y := YX9_broken) dX9_broken_15 rfl ?_
    refine r_iV0V (Y := YX9_broken) mv_X9_159 dX9_broken_16 (c_layNow hm hA hW) (by assumption) (fun σ16 h16 => ?_)
    obtain ⟨t1, t2⟩ := h16
    have hM2 := hM.fm t2
    refine r_iconst (Y := YX9_broken) dX9_broken_19 ?_
    refine r_istore_n (Y := YX9_broken) dX9_broken_20 ?_
    refine r_iconst (Y := YX9_broken) dX9_broken_21 ?_
    refine r_istore_n (Y := YX9_broken) dX9_broken_22 ?_
    have hsf : brokenF G l = ((rdN (fun r => powL (aS G.1.1) (aR G.1.1 r)) l 4).2, G) := by unfold brokenF; (repeat (first | rw [if_pos (by omega)] | rw [if_neg (by omega)])); rfl
    rw [hsf]
    suffices hloop : ∀ (k n : Nat), n + k = 4 → R2 YX9_broken 1 σ16 23 [some (rf m), some (iv l), some (iv (hldN (fun r => powL (aS G.1.1) (aR G.1.1 r)) n)), some (iv n), none, none, none] [] (PI fun σ' z => z = (rdN (fun r => powL (aS G.1.1) (aR G.1.1 r)) l 4).2 ∧ HM σ' m G ∧ FY σ6 σ' m) from
      R2.weak (by repeat first | exact trivial | refine And.intro rfl ?_) (hloop 4 0 rfl)
    intro k
    induction k with
    | zero =>
      intro n e1
      have e2 : n = 4 := by omega
      subst e2
      refine r_iload_n (Y := YX9_broken) dX9_broken_23 rfl ?_
      refine r_iconst (Y := YX9_broken) dX9_broken_24 ?_
      refine r_icmp_ge (Y := YX9_broken) (tgt := 52) dX9_broken_25 (by decide) (fun c25 => ?_) (fun c25 => absurd c25 (by omega)) 
      refine r_iconst (Y := YX9_broken) dX9_broken_52 ?_
      refine r_istore_n (Y := YX9_broken) dX9_broken_53 ?_
      refine r_iconst (Y := YX9_broken) dX9_broken_54 ?_
      refine r_istore (Y := YX9_broken) dX9_broken_55 ?_
      suffices hwh : ∀ (c j : Nat), pc6 (rdN (fun r => powL (aS G.1.1) (aR G.1.1 r)) l j).1 ≤ c → j + c ≤ 4 → R2 YX9_broken 1 σ16 57 [some (rf m), some (iv l), some (iv (rdN (fun r => powL (aS G.1.1) (aR G.1.1 r)) l j).1), some (iv (rdN (fun r => powL (aS G.1.1) (aR G.1.1 r)) l j).2), some (iv 1), none, none] [] (PI fun σ' z => z = (rdN (fun r => powL (aS G.1.1) (aR G.1.1 r)) l 4).2 ∧ HM σ' m G ∧ FY σ6 σ' m) from by
        have hb0 := rdN_bd (P := (fun r => powL (aS G.1.1) (aR G.1.1 r))) (load := l) 0
        exact R2.weak (by repeat first | exact trivial | refine And.intro rfl ?_) (hwh 4 0 (pc16b hb0.1.1 hb0.1.2).2 (by omega))
      intro c
      induction c with
      | zero =>
        intro j e3 e4
        have hrb := rdN_bd (P := (fun r => powL (aS G.1.1) (aR G.1.1 r))) (load := l) j
        have hpc := pc16b hrb.1.1 hrb.1.2
        have hln : brkN (fun r => powL (aS G.1.1) (aR G.1.1 r)) (rdN (fun r => powL (aS G.1.1) (aR G.1.1 r)) l j).1 l 4 = 0 := by
          rcases brk_less (P := (fun r => powL (aS G.1.1) (aR G.1.1 r))) (load := l) hrb.1.1 hrb.1.2 with q | q
          · exact q
          · exfalso
            have hw9 := brkN_bd (P := (fun r => powL (aS G.1.1) (aR G.1.1 r))) (h := (rdN (fun r => powL (aS G.1.1) (aR G.1.1 r)) l j).1) (load := l) 4 (Nat.le_refl 4)
            have h9 := ban16 (rdN (fun r => powL (aS G.1.1) (aR G.1.1 r)) l j).1.toNat (by omega) (brkN (fun r => powL (aS G.1.1) (aR G.1.1 r)) (rdN (fun r => powL (aS G.1.1) (aR G.1.1 r)) l j).1 l 4).toNat (by omega)
            rw [show (((rdN (fun r => powL (aS G.1.1) (aR G.1.1 r)) l j).1.toNat : Nat) : Int) = (rdN (fun r => powL (aS G.1.1) (aR G.1.1 r)) l j).1 by omega, show (((brkN (fun r => powL (aS G.1.1) (aR G.1.1 r)) (rdN (fun r => powL (aS G.1.1) (aR G.1.1 r)) l j).1 l 4).toNat : Nat) : Int) = brkN (fun r => powL (aS G.1.1) (aR G.1.1 r)) (rdN (fun r => powL (aS G.1.1) (aR G.1.1 r)) l j).1 l 4 by omega] at h9
            have := (pc16b h9.1 h9.2).1
            omega
        have hst := rd_stay hln (4 - j)
        rw [show j + (4 - j) = 4 by omega] at hst
        rw [hst]
        refine r_iload (Y := YX9_broken) dX9_broken_57 rfl ?_
        refine r_if_eq (Y := YX9_broken) (tgt := 145) dX9_broken_59 (by decide) (fun c59 => absurd c59 (by omega)) (fun c59 => ?_) 
        refine r_iconst (Y := YX9_broken) dX9_broken_62 ?_
        refine r_istore (Y := YX9_broken) dX9_broken_63 ?_
        refine r_iconst (Y := YX9_broken) dX9_broken_65 ?_
        refine r_istore (Y := YX9_broken) dX9_broken_66 ?_
        generalize rdN (fun r => powL (aS G.1.1) (aR G.1.1 r)) l j = qq at *
        obtain ⟨hh, bb⟩ := qq
        dsimp only at *
        suffices hin : ∀ (k n : Nat), n + k = 4 → R2 YX9_broken 1 σ16 68 [some (rf m), some (iv l), some (iv hh), some (iv bb), some (iv 1), some (iv (brkN (fun r => powL (aS G.1.1) (aR G.1.1 r)) hh l n)), some (iv n)] [] (PI fun σ' z => z = bb ∧ HM σ' m G ∧ FY σ6 σ' m) from
          R2.weak (by repeat first | exact trivial | refine And.intro rfl ?_) (hin 4 0 rfl)
        intro k
        induction k with
        | zero =>
          intro n e1
          have e2 : n = 4 := by omega
          subst e2
          refine r_iload (Y := YX9_broken) dX9_broken_68 rfl ?_
          refine r_iconst (Y := YX9_broken) dX9_broken_70 ?_
          refine r_icmp_ge (Y := YX9_broken) (tgt := 118) dX9_broken_71 (by decide) (fun c71 => ?_) (fun c71 => absurd c71 (by omega)) 
          rw [hln]
          refine r_iload_n (Y := YX9_broken) dX9_broken_118 rfl ?_
          refine r_iload (Y := YX9_broken) dX9_broken_119 rfl ?_
          refine r_iconst (Y := YX9_broken) dX9_broken_121 ?_
          refine r_ixor (Y := YX9_broken) dX9_broken_122 ?_
          refine r_iand (Y := YX9_broken) dX9_broken_123 ?_
          refine r_istore_n (Y := YX9_broken) dX9_broken_124 ?_
          refine r_iload_n (Y := YX9_broken) dX9_broken_125 rfl ?_
          refine r_iload (Y := YX9_broken) dX9_broken_126 rfl ?_
          refine r_ior (Y := YX9_broken) dX9_broken_128 ?_
          refine r_istore_n (Y := YX9_broken) dX9_broken_129 ?_
          refine r_iload (Y := YX9_broken) dX9_broken_130 rfl ?_
          refine r_if_eq (Y := YX9_broken) (tgt := 139) dX9_broken_132 (by decide) (fun c132 => ?_) (fun c132 => absurd c132 (by omega)) 
          refine r_iconst (Y := YX9_broken) dX9_broken_139 ?_
          refine r_istore (Y := YX9_broken) dX9_broken_140 ?_
          refine r_goto (Y := YX9_broken) (tgt := 57) dX9_broken_142 (by decide) ?_
          refine r_iload (Y := YX9_broken) dX9_broken_57 rfl ?_
          refine r_if_eq (Y := YX9_broken) (tgt := 145) dX9_broken_59 (by decide) (fun c59 => ?_) (fun c59 => absurd c59 (by omega)) 
          refine r_iload_n (Y := YX9_broken) dX9_broken_145 rfl ?_
          refine r_ireturn (Y := YX9_broken) dX9_broken_146 ?_
          exact ⟨(id16b hrb.2.1 hrb.2.2).2, hM2, t2.fy⟩
        | succ k ih =>
          intro n e1
          have hPn := hPb n (by omega) (by omega)
          have hbt := bt_bd (s := hh) (m := n) hrb.1.1 (by omega) (by omega) (by omega)
          have hbk := brkN_bd (P := (fun r => powL (aS G.1.1) (aR G.1.1 r))) (h := hh) (load := l) n (by omega)
          have hp2 : 2 ^ n ≤ 2 ^ 4 := Nat.pow_le_pow_right (by omega) (by omega)
          have hz := (id16b hbk.1 (by omega)).2
          have hmb := mul_bd (h := powL (aS G.1.1) (aR G.1.1 n)) (w := pc6 hh) (H := 7128) (V := 4) (by omega) (by omega) (by omega) (by omega)
          have ih := ih (n + 1) (by omega)
          have hst2 : brkN (fun r => powL (aS G.1.1) (aR G.1.1 r)) hh l (n + 1) = if bt hh n ≠ 0 ∧ powL (aS G.1.1) (aR G.1.1 n) * pc6 hh < l then bor (brkN (fun r => powL (aS G.1.1) (aR G.1.1 r)) hh l n) (bsl 1 n) else brkN (fun r => powL (aS G.1.1) (aR G.1.1 r)) hh l n := rfl
          rw [hst2] at ih
          refine r_iload (Y := YX9_broken) dX9_broken_68 rfl ?_
          refine r_iconst (Y := YX9_broken) dX9_broken_70 ?_
          refine r_icmp_ge (Y := YX9_broken) (tgt := 118) dX9_broken_71 (by decide) (fun c71 => absurd c71 (by omega)) (fun c71 => ?_) 
          refine r_iload (Y := YX9_broken) dX9_broken_74 rfl ?_
          refine r_iload_n (Y := YX9_broken) dX9_broken_76 rfl ?_
          refine r_iload (Y := YX9_broken) dX9_broken_77 rfl ?_
          refine r_ishr (Y := YX9_broken) dX9_broken_79 ?_
          refine r_iconst (Y := YX9_broken) dX9_broken_80 ?_
          refine r_iand (Y := YX9_broken) dX9_broken_81 ?_
          refine r_iconst (Y := YX9_broken) dX9_broken_82 ?_
          change R2 _ _ _ _ _ (iv 1 :: iv (bt hh n) :: _) _
          refine r_icmp_ne (Y := YX9_broken) (tgt := 108) dX9_broken_83 (by decide) (fun c83 => ?_) (fun c83 => ?_) 
          · refine r_iconst (Y := YX9_broken) dX9_broken_108 ?_
            refine r_ior (Y := YX9_broken) dX9_broken_109 ?_
            refine r_istore (Y := YX9_broken) dX9_broken_110 ?_
            refine r_iinc (Y := YX9_broken) dX9_broken_112 rfl ?_
            refine r_goto (Y := YX9_broken) (tgt := 68) dX9_broken_115 (by decide) ?_
            first
              | (rw [if_pos (by omega)] at ih; exact R2.weak (by repeat first | exact trivial | refine And.intro rfl ?_) ih)
              | (rw [if_neg (by omega), ← hz] at ih; exact R2.weak (by repeat first | exact trivial | refine And.intro rfl ?_) ih)
          · refine r_aload_n (Y := YX9_broken) dX9_broken_86 rfl ?_
            refine r_iload (Y := YX9_broken) dX9_broken_87 rfl ?_
            refine r_iV1I (Y := YX9_broken) mv_X9_114 dX9_broken_89 (c_X9_powerOf hm (by omega) (by omega) t1 hW) (by assumption) (fun σ89 z89 h89 => ?_)
            obtain ⟨e89, rfl⟩ := h89
            subst e89
            refine r_iload_n (Y := YX9_broken) dX9_broken_92 rfl ?_
            refine r_iS1I (Y := YX9_broken) ms_X9_190 dX9_broken_93 (c_X9_ones _ _ hrb.1.1 (by omega)) (fun σ93 z93 h93 => ?_)
            obtain ⟨e93, rfl⟩ := h93
            subst e93
            refine r_imul (Y := YX9_broken) dX9_broken_96 ?_
            refine r_iload_n (Y := YX9_broken) dX9_broken_97 rfl ?_
            refine r_icmp_ge (Y := YX9_broken) (tgt := 108) dX9_broken_98 (by decide) (fun c98 => ?_) (fun c98 => ?_) 
            · refine r_iconst (Y := YX9_broken) dX9_broken_108 ?_
              refine r_ior (Y := YX9_broken) dX9_broken_109 ?_
              refine r_istore (Y := YX9_broken) dX9_broken_110 ?_
              refine r_iinc (Y := YX9_broken) dX9_broken_112 rfl ?_
              refine r_goto (Y := YX9_broken) (tgt := 68) dX9_broken_115 (by decide) ?_
              first
                | (rw [if_pos (by omega)] at ih; exact R2.weak (by repeat first | exact trivial | refine And.intro rfl ?_) ih)
                | (rw [if_neg (by omega), ← hz] at ih; exact R2.weak (by repeat first | exact trivial | refine And.intro rfl ?_) ih)
            · refine r_iconst (Y := YX9_broken) dX9_broken_101 ?_
              refine r_iload (Y := YX9_broken) dX9_broken_102 rfl ?_
              refine r_ishl (Y := YX9_broken) dX9_broken_104 ?_
              refine r_goto (Y := YX9_broken) (tgt := 109) dX9_broken_105 (by decide) ?_
              refine r_ior (Y := YX9_broken) dX9_broken_109 ?_
              refine r_istore (Y := YX9_broken) dX9_broken_110 ?_
              refine r_iinc (Y := YX9_broken) dX9_broken_112 rfl ?_
              refine r_goto (Y := YX9_broken) (tgt := 68) dX9_broken_115 (by decide) ?_
              first
                | (rw [if_pos (by omega)] at ih; exact R2.weak (by repeat first | exact trivial | refine And.intro rfl ?_) ih)
                | (rw [if_neg (by omega), ← hz] at ih; exact R2.weak (by repeat first | exact trivial | refine And.intro rfl ?_) ih)
      | succ c ihc =>
        intro j e3 e4
        have hrb := rdN_bd (P := (fun r => powL (aS G.1.1) (aR G.1.1 r))) (load := l) j
        have hpc := pc16b hrb.1.1 hrb.1.2
        have hbl := brk_less (P := (fun r => powL (aS G.1.1) (aR G.1.1 r))) (load := l) hrb.1.1 hrb.1.2
        have ihc := ihc (j + 1)
        change pc6 (rdStep (fun r => powL (aS G.1.1) (aR G.1.1 r)) l (rdN (fun r => powL (aS G.1.1) (aR G.1.1 r)) l j)).1 ≤ _ → _ → R2 _ _ _ _ [_, _, some (iv (rdStep (fun r => powL (aS G.1.1) (aR G.1.1 r)) l (rdN (fun r => powL (aS G.1.1) (aR G.1.1 r)) l j)).1), some (iv (rdStep (fun r => powL (aS G.1.1) (aR G.1.1 r)) l (rdN (fun r => powL (aS G.1.1) (aR G.1.1 r)) l j)).2), _, _, _] _ _ at ihc
        by_cases hln : brkN (fun r => powL (aS G.1.1) (aR G.1.1 r)) (rdN (fun r => powL (aS G.1.1) (aR G.1.1 r)) l j).1 l 4 = 0
        · have hst := rd_stay hln (4 - j)
          rw [show j + (4 - j) = 4 by omega] at hst
          clear ihc hbl
          rw [hst]
          refine r_iload (Y := YX9_broken) dX9_broken_57 rfl ?_
          refine r_if_eq (Y := YX9_broken) (tgt := 145) dX9_broken_59 (by decide) (fun c59 => absurd c59 (by omega)) (fun c59 => ?_) 
          refine r_iconst (Y := YX9_broken) dX9_broken_62 ?_
          refine r_istore (Y := YX9_broken) dX9_broken_63 ?_
          refine r_iconst (Y := YX9_broken) dX9_broken_65 ?_
          refine r_istore (Y := YX9_broken) dX9_broken_66 ?_
          generalize rdN (fun r => powL (aS G.1.1) (aR G.1.1 r)) l j = qq at *
          obtain ⟨hh, bb⟩ := qq
          dsimp only at *
          suffices hin : ∀ (k n : Nat), n + k = 4 → R2 YX9_broken 1 σ16 68 [some (rf m), some (iv l), some (iv hh), some (iv bb), some (iv 1), some (iv (brkN (fun r => powL (aS G.1.1) (aR G.1.1 r)) hh l n)), some (iv n)] [] (PI fun σ' z => z = bb ∧ HM σ' m G ∧ FY σ6 σ' m) from
            R2.weak (by repeat first | exact trivial | refine And.intro rfl ?_) (hin 4 0 rfl)
          intro k
          induction k with
          | zero =>
            intro n e1
            have e2 : n = 4 := by omega
            subst e2
            refine r_iload (Y := YX9_broken) dX9_broken_68 rfl ?_
            refine r_iconst (Y := YX9_broken) dX9_broken_70 ?_
            refine r_icmp_ge (Y := YX9_broken) (tgt := 118) dX9_broken_71 (by decide) (fun c71 => ?_) (fun c71 => absurd c71 (by omega)) 
            rw [hln]
            refine r_iload_n (Y := YX9_broken) dX9_broken_118 rfl ?_
            refine r_iload (Y := YX9_broken) dX9_broken_119 rfl ?_
            refine r_iconst (Y := YX9_broken) dX9_broken_121 ?_
            refine r_ixor (Y := YX9_broken) dX9_broken_122 ?_
            refine r_iand (Y := YX9_broken) dX9_broken_123 ?_
            refine r_istore_n (Y := YX9_broken) dX9_broken_124 ?_
            refine r_iload_n (Y := YX9_broken) dX9_broken_125 rfl ?_
            refine r_iload (Y := YX9_broken) dX9_broken_126 rfl ?_
            refine r_ior (Y := YX9_broken) dX9_broken_128 ?_
            refine r_istore_n (Y := YX9_broken) dX9_broken_129 ?_
            refine r_iload (Y := YX9_broken) dX9_broken_130 rfl ?_
            refine r_if_eq (Y := YX9_broken) (tgt := 139) dX9_broken_132 (by decide) (fun c132 => ?_) (fun c132 => absurd c132 (by omega)) 
            refine r_iconst (Y := YX9_broken) dX9_broken_139 ?_
            refine r_istore (Y := YX9_broken) dX9_broken_140 ?_
            refine r_goto (Y := YX9_broken) (tgt := 57) dX9_broken_142 (by decide) ?_
            refine r_iload (Y := YX9_broken) dX9_broken_57 rfl ?_
            refine r_if_eq (Y := YX9_broken) (tgt := 145) dX9_broken_59 (by decide) (fun c59 => ?_) (fun c59 => absurd c59 (by omega)) 
            refine r_iload_n (Y := YX9_broken) dX9_broken_145 rfl ?_
            refine r_ireturn (Y := YX9_broken) dX9_broken_146 ?_
            exact ⟨(id16b hrb.2.1 hrb.2.2).2, hM2, t2.fy⟩
          | succ k ih =>
            intro n e1
            have hPn := hPb n (by omega) (by omega)
            have hbt := bt_bd (s := hh) (m := n) hrb.1.1 (by omega) (by omega) (by omega)
            have hbk := brkN_bd (P := (fun r => powL (aS G.1.1) (aR G.1.1 r))) (h := hh) (load := l) n (by omega)
            have hp2 : 2 ^ n ≤ 2 ^ 4 := Nat.pow_le_pow_right (by omega) (by omega)
            have hz := (id16b hbk.1 (by omega)).2
            have hmb := mul_bd (h := powL (aS G.1.1) (aR G.1.1 n)) (w := pc6 hh) (H := 7128) (V := 4) (by omega) (by omega) (by omega) (by omega)
            have ih := ih (n + 1) (by omega)
            have hst2 : brkN (fun r => powL (aS G.1.1) (aR G.1.1 r)) hh l (n + 1) = if bt hh n ≠ 0 ∧ powL (aS G.1.1) (aR G.1.1 n) * pc6 hh < l then bor (brkN (fun r => powL (aS G.1.1) (aR G.1.1 r)) hh l n) (bsl 1 n) else brkN (fun r => powL (aS G.1.1) (aR G.1.1 r)) hh l n := rfl
            rw [hst2] at ih
            refine r_iload (Y := YX9_broken) dX9_broken_68 rfl ?_
            refine r_iconst (Y := YX9_broken) dX9_broken_70 ?_
            refine r_icmp_ge (Y := YX9_broken) (tgt := 118) dX9_broken_71 (by decide) (fun c71 => absurd c71 (by omega)) (fun c71 => ?_) 
            refine r_iload (Y := YX9_broken) dX9_broken_74 rfl ?_
            refine r_iload_n (Y := YX9_broken) dX9_broken_76 rfl ?_
            refine r_iload (Y := YX9_broken) dX9_broken_77 rfl ?_
            refine r_ishr (Y := YX9_broken) dX9_broken_79 ?_
            refine r_iconst (Y := YX9_broken) dX9_broken_80 ?_
            refine r_iand (Y := YX9_broken) dX9_broken_81 ?_
            refine r_iconst (Y := YX9_broken) dX9_broken_82 ?_
            change R2 _ _ _ _ _ (iv 1 :: iv (bt hh n) :: _) _
            refine r_icmp_ne (Y := YX9_broken) (tgt := 108) dX9_broken_83 (by decide) (fun c83 => ?_) (fun c83 => ?_) 
            · refine r_iconst (Y := YX9_broken) dX9_broken_108 ?_
              refine r_ior (Y := YX9_broken) dX9_broken_109 ?_
              refine r_istore (Y := YX9_broken) dX9_broken_110 ?_
              refine r_iinc (Y := YX9_broken) dX9_broken_112 rfl ?_
              refine r_goto (Y := YX9_broken) (tgt := 68) dX9_broken_115 (by decide) ?_
              first
                | (rw [if_pos (by omega)] at ih; exact R2.weak (by repeat first | exact trivial | refine And.intro rfl ?_) ih)
                | (rw [if_neg (by omega), ← hz] at ih; exact R2.weak (by repeat first | exact trivial | refine And.intro rfl ?_) ih)
            · refine r_aload_n (Y := YX9_broken) dX9_broken_86 rfl ?_
              refine r_iload (Y := YX9_broken) dX9_broken_87 rfl ?_
              refine r_iV1I (Y := YX9_broken) mv_X9_114 dX9_broken_89 (c_X9_powerOf hm (by omega) (by omega) t1 hW) (by assumption) (fun σ89 z89 h89 => ?_)
              obtain ⟨e89, rfl⟩ := h89
              subst e89
              refine r_iload_n (Y := YX9_broken) dX9_broken_92 rfl ?_
              refine r_iS1I (Y := YX9_broken) ms_X9_190 dX9_broken_93 (c_X9_ones _ _ hrb.1.1 (by omega)) (fun σ93 z93 h93 => ?_)
              obtain ⟨e93, rfl⟩ := h93
              subst e93
              refine r_imul (Y := YX9_broken) dX9_broken_96 ?_
              refine r_iload_n (Y := YX9_broken) dX9_broken_97 rfl ?_
              refine r_icmp_ge (Y := YX9_broken) (tgt := 108) dX9_broken_98 (by decide) (fun c98 => ?_) (fun c98 => ?_) 
              · refine r_iconst (Y := YX9_broken) dX9_broken_108 ?_
                refine r_ior (Y := YX9_broken) dX9_broken_109 ?_
                refine r_istore (Y := YX9_broken) dX9_broken_110 ?_
                refine r_iinc (Y := YX9_broken) dX9_broken_112 rfl ?_
                refine r_goto (Y := YX9_broken) (tgt := 68) dX9_broken_115 (by decide) ?_
                first
                  | (rw [if_pos (by omega)] at ih; exact R2.weak (by repeat first | exact trivial | refine And.intro rfl ?_) ih)
                  | (rw [if_neg (by omega), ← hz] at ih; exact R2.weak (by repeat first | exact trivial | refine And.intro rfl ?_) ih)
              · refine r_iconst (Y := YX9_broken) dX9_broken_101 ?_
                refine r_iload (Y := YX9_broken) dX9_broken_102 rfl ?_
                refine r_ishl (Y := YX9_broken) dX9_broken_104 ?_
                refine r_goto (Y := YX9_broken) (tgt := 109) dX9_broken_105 (by decide) ?_
                refine r_ior (Y := YX9_broken) dX9_broken_109 ?_
                refine r_istore (Y := YX9_broken) dX9_broken_110 ?_
                refine r_iinc (Y := YX9_broken) dX9_broken_112 rfl ?_
                refine r_goto (Y := YX9_broken) (tgt := 68) dX9_broken_115 (by decide) ?_
                first
                  | (rw [if_pos (by omega)] at ih; exact R2.weak (by repeat first | exact trivial | refine And.intro rfl ?_) ih)
                  | (rw [if_neg (by omega), ← hz] at ih; exact R2.weak (by repeat first | exact trivial | refine And.intro rfl ?_) ih)
        · have hbl : pc6 (ban (rdN (fun r => powL (aS G.1.1) (aR G.1.1 r)) l j).1 (bxo (brkN (fun r => powL (aS G.1.1) (aR G.1.1 r)) (rdN (fun r => powL (aS G.1.1) (aR G.1.1 r)) l j).1 l 4) (-1))) < pc6 (rdN (fun r => powL (aS G.1.1) (aR G.1.1 r)) l j).1 := by
            rcases hbl with q | q
            · exact absurd q hln
            · exact q
          generalize (rdN (fun r => powL (aS G.1.1) (aR G.1.1 r)) l 4).2 = ZZ at *
          unfold rdStep at ihc
          refine r_iload (Y := YX9_broken) dX9_broken_57 rfl ?_
          refine r_if_eq (Y := YX9_broken) (tgt := 145) dX9_broken_59 (by decide) (fun c59 => absurd c59 (by omega)) (fun c59 => ?_) 
          refine r_iconst (Y := YX9_broken) dX9_broken_62 ?_
          refine r_istore (Y := YX9_broken) dX9_broken_63 ?_
          refine r_iconst (Y := YX9_broken) dX9_broken_65 ?_
          refine r_istore (Y := YX9_broken) dX9_broken_66 ?_
          generalize rdN (fun r => powL (aS G.1.1) (aR G.1.1 r)) l j = qq at *
          obtain ⟨hh, bb⟩ := qq
          dsimp only at *
          suffices hin : ∀ (k n : Nat), n + k = 4 → R2 YX9_broken 1 σ16 68 [some (rf m), some (iv l), some (iv hh), some (iv bb), some (iv 1), some (iv (brkN (fun r => powL (aS G.1.1) (aR G.1.1 r)) hh l n)), some (iv n)] [] (PI fun σ' z => z = ZZ ∧ HM σ' m G ∧ FY σ6 σ' m) from
            R2.weak (by repeat first | exact trivial | refine And.intro rfl ?_) (hin 4 0 rfl)
          intro k
          induction k with
          | zero =>
            intro n e1
            have e2 : n = 4 := by omega
            subst e2
            refine r_iload (Y := YX9_broken) dX9_broken_68 rfl ?_
            refine r_iconst (Y := YX9_broken) dX9_broken_70 ?_
            refine r_icmp_ge (Y := YX9_broken) (tgt := 118) dX9_broken_71 (by decide) (fun c71 => ?_) (fun c71 => absurd c71 (by omega)) 
            have hbk := brkN_bd (P := (fun r => powL (aS G.1.1) (aR G.1.1 r))) (h := hh) (load := l) 4 (Nat.le_refl 4)
            have hln9 : ¬ brkN (fun r => powL (aS G.1.1) (aR G.1.1 r)) hh l 4 = 0 := hln
            refine r_iload_n (Y := YX9_broken) dX9_broken_118 rfl ?_
            refine r_iload (Y := YX9_broken) dX9_broken_119 rfl ?_
            refine r_iconst (Y := YX9_broken) dX9_broken_121 ?_
            refine r_ixor (Y := YX9_broken) dX9_broken_122 ?_
            refine r_iand (Y := YX9_broken) dX9_broken_123 ?_
            refine r_istore_n (Y := YX9_broken) dX9_broken_124 ?_
            refine r_iload_n (Y := YX9_broken) dX9_broken_125 rfl ?_
            refine r_iload (Y := YX9_broken) dX9_broken_126 rfl ?_
            refine r_ior (Y := YX9_broken) dX9_broken_128 ?_
            refine r_istore_n (Y := YX9_broken) dX9_broken_129 ?_
            refine r_iload (Y := YX9_broken) dX9_broken_130 rfl ?_
            refine r_if_eq (Y := YX9_broken) (tgt := 139) dX9_broken_132 (by decide) (fun c132 => absurd c132 (hln9)) (fun c132 => ?_) 
            refine r_iconst (Y := YX9_broken) dX9_broken_135 ?_
            refine r_goto (Y := YX9_broken) (tgt := 140) dX9_broken_136 (by decide) ?_
            refine r_istore (Y := YX9_broken) dX9_broken_140 ?_
            refine r_goto (Y := YX9_broken) (tgt := 57) dX9_broken_142 (by decide) ?_
            exact R2.weak (by repeat first | exact trivial | refine And.intro rfl ?_) (ihc (by omega) (by omega))
          | succ k ih =>
            intro n e1
            have hPn := hPb n (by omega) (by omega)
            have hbt := bt_bd (s := hh) (m := n) hrb.1.1 (by omega) (by omega) (by omega)
            have hbk := brkN_bd (P := (fun r => powL (aS G.1.1) (aR G.1.1 r))) (h := hh) (load := l) n (by omega)
            have hp2 : 2 ^ n ≤ 2 ^ 4 := Nat.pow_le_pow_right (by omega) (by omega)
            have hz := (id16b hbk.1 (by omega)).2
            have hmb := mul_bd (h := powL (aS G.1.1) (aR G.1.1 n)) (w := pc6 hh) (H := 7128) (V := 4) (by omega) (by omega) (by omega) (by omega)
            have ih := ih (n + 1) (by omega)
            have hst2 : brkN (fun r => powL (aS G.1.1) (aR G.1.1 r)) hh l (n + 1) = if bt hh n ≠ 0 ∧ powL (aS G.1.1) (aR G.1.1 n) * pc6 hh < l then bor (brkN (fun r => powL (aS G.1.1) (aR G.1.1 r)) hh l n) (bsl 1 n) else brkN (fun r => powL (aS G.1.1) (aR G.1.1 r)) hh l n := rfl
            rw [hst2] at ih
            refine r_iload (Y := YX9_broken) dX9_broken_68 rfl ?_
            refine r_iconst (Y := YX9_broken) dX9_broken_70 ?_
            refine r_icmp_ge (Y := YX9_broken) (tgt := 118) dX9_broken_71 (by decide) (fun c71 => absurd c71 (by omega)) (fun c71 => ?_) 
            refine r_iload (Y := YX9_broken) dX9_broken_74 rfl ?_
            refine r_iload_n (Y := YX9_broken) dX9_broken_76 rfl ?_
            refine r_iload (Y := YX9_broken) dX9_broken_77 rfl ?_
            refine r_ishr (Y := YX9_broken) dX9_broken_79 ?_
            refine r_iconst (Y := YX9_broken) dX9_broken_80 ?_
            refine r_iand (Y := YX9_broken) dX9_broken_81 ?_
            refine r_iconst (Y := YX9_broken) dX9_broken_82 ?_
            change R2 _ _ _ _ _ (iv 1 :: iv (bt hh n) :: _) _
            refine r_icmp_ne (Y := YX9_broken) (tgt := 108) dX9_broken_83 (by decide) (fun c83 => ?_) (fun c83 => ?_) 
            · refine r_iconst (Y := YX9_broken) dX9_broken_108 ?_
              refine r_ior (Y := YX9_broken) dX9_broken_109 ?_
              refine r_istore (Y := YX9_broken) dX9_broken_110 ?_
              refine r_iinc (Y := YX9_broken) dX9_broken_112 rfl ?_
              refine r_goto (Y := YX9_broken) (tgt := 68) dX9_broken_115 (by decide) ?_
              first
                | (rw [if_pos (by omega)] at ih; exact R2.weak (by repeat first | exact trivial | refine And.intro rfl ?_) ih)
                | (rw [if_neg (by omega), ← hz] at ih; exact R2.weak (by repeat first | exact trivial | refine And.intro rfl ?_) ih)
            · refine r_aload_n (Y := YX9_broken) dX9_broken_86 rfl ?_
              refine r_iload (Y := YX9_broken) dX9_broken_87 rfl ?_
              refine r_iV1I (Y := YX9_broken) mv_X9_114 dX9_broken_89 (c_X9_powerOf hm (by omega) (by omega) t1 hW) (by assumption) (fun σ89 z89 h89 => ?_)
              obtain ⟨e89, rfl⟩ := h89
              subst e89
              refine r_iload_n (Y := YX9_broken) dX9_broken_92 rfl ?_
              refine r_iS1I (Y := YX9_broken) ms_X9_190 dX9_broken_93 (c_X9_ones _ _ hrb.1.1 (by omega)) (fun σ93 z93 h93 => ?_)
              obtain ⟨e93, rfl⟩ := h93
              subst e93
              refine r_imul (Y := YX9_broken) dX9_broken_96 ?_
              refine r_iload_n (Y := YX9_broken) dX9_broken_97 rfl ?_
              refine r_icmp_ge (Y := YX9_broken) (tgt := 108) dX9_broken_98 (by decide) (fun c98 => ?_) (fun c98 => ?_) 
              · refine r_iconst (Y := YX9_broken) dX9_broken_108 ?_
                refine r_ior (Y := YX9_broken) dX9_broken_109 ?_
                refine r_istore (Y := YX9_broken) dX9_broken_110 ?_
                refine r_iinc (Y := YX9_broken) dX9_broken_112 rfl ?_
                refine r_goto (Y := YX9_broken) (tgt := 68) dX9_broken_115 (by decide) ?_
                first
                  | (rw [if_pos (by omega)] at ih; exact R2.weak (by repeat first | exact trivial | refine And.intro rfl ?_) ih)
                  | (rw [if_neg (by omega), ← hz] at ih; exact R2.weak (by repeat first | exact trivial | refine And.intro rfl ?_) ih)
              · refine r_iconst (Y := YX9_broken) dX9_broken_101 ?_
                refine r_iload (Y := YX9_broken) dX9_broken_102 rfl ?_
                refine r_ishl (Y := YX9_broken) dX9_broken_104 ?_
                refine r_goto (Y := YX9_broken) (tgt := 109) dX9_broken_105 (by decide) ?_
                refine r_ior (Y := YX9_broken) dX9_broken_109 ?_
                refine r_istore (Y := YX9_broken) dX9_broken_110 ?_
                refine r_iinc (Y := YX9_broken) dX9_broken_112 rfl ?_
                refine r_goto (Y := YX9_broken) (tgt := 68) dX9_broken_115 (by decide) ?_
                first
                  | (rw [if_pos (by omega)] at ih; exact R2.weak (by repeat first | exact trivial | refine And.intro rfl ?_) ih)
                  | (rw [if_neg (by omega), ← hz] at ih; exact R2.weak (by repeat first | exact trivial | refine And.intro rfl ?_) ih)
    | succ k ih =>
      intro n e1
      have hPn := hPb n (by omega) (by omega)
      have hbk := hldN_bd (P := (fun r => powL (aS G.1.1) (aR G.1.1 r))) n (by omega)
      have hp2 : 2 ^ n ≤ 2 ^ 4 := Nat.pow_le_pow_right (by omega) (by omega)
      have hz := (id16b hbk.1 (by omega)).2
      have ih := ih (n + 1) (by omega)
      have hst2 : hldN (fun r => powL (aS G.1.1) (aR G.1.1 r)) (n + 1) = if 0 < powL (aS G.1.1) (aR G.1.1 n) then bor (hldN (fun r => powL (aS G.1.1) (aR G.1.1 r)) n) (bsl 1 n) else hldN (fun r => powL (aS G.1.1) (aR G.1.1 r)) n := rfl
      rw [hst2] at ih
      refine r_iload_n (Y := YX9_broken) dX9_broken_23 rfl ?_
      refine r_iconst (Y := YX9_broken) dX9_broken_24 ?_
      refine r_icmp_ge (Y := YX9_broken) (tgt := 52) dX9_broken_25 (by decide) (fun c25 => absurd c25 (by omega)) (fun c25 => ?_) 
      refine r_iload_n (Y := YX9_broken) dX9_broken_28 rfl ?_
      refine r_aload_n (Y := YX9_broken) dX9_broken_29 rfl ?_
      refine r_iload_n (Y := YX9_broken) dX9_broken_30 rfl ?_
      refine r_iV1I (Y := YX9_broken) mv_X9_114 dX9_broken_31 (c_X9_powerOf hm (by omega) (by omega) t1 hW) (by assumption) (fun σ31 z31 h31 => ?_)
      obtain ⟨e31, rfl⟩ := h31
      subst e31
      refine r_if_le (Y := YX9_broken) (tgt := 43) dX9_broken_34 (by decide) (fun c34 => ?_) (fun c34 => ?_) 
      · refine r_iconst (Y := YX9_broken) dX9_broken_43 ?_
        refine r_ior (Y := YX9_broken) dX9_broken_44 ?_
        refine r_istore_n (Y := YX9_broken) dX9_broken_45 ?_
        refine r_iinc (Y := YX9_broken) dX9_broken_46 rfl ?_
        refine r_goto (Y := YX9_broken) (tgt := 23) dX9_broken_49 (by decide) ?_
        first
          | (rw [if_pos (by omega)] at ih; exact R2.weak (by repeat first | exact trivial | refine And.intro rfl ?_) ih)
          | (rw [if_neg (by omega), ← hz] at ih; exact R2.weak (by repeat first | exact trivial | refine And.intro rfl ?_) ih)
      · refine r_iconst (Y := YX9_broken) dX9_broken_37 ?_
        refine r_iload_n (Y := YX9_broken) dX9_broken_38 rfl ?_
        refine r_ishl (Y := YX9_broken) dX9_broken_39 ?_
        refine r_goto (Y := YX9_broken) (tgt := 44) dX9_broken_40 (by decide) ?_
        refine r_ior (Y := YX9_broken) dX9_broken_44 ?_
        refine r_istore_n (Y := YX9_broken) dX9_broken_45 ?_
        refine r_iinc (Y := YX9_broken) dX9_broken_46 rfl ?_
        refine r_goto (Y := YX9_broken) (tgt := 23) dX9_broken_49 (by decide) ?_
        first
          | (rw [if_pos (by omega)] at ih; exact R2.weak (by repeat first | exact trivial | refine And.intro rfl ?_) ih)
          | (rw [if_neg (by omega), ← hz] at ih; exact R2.weak (by repeat first | exact trivial | refine And.intro rfl ?_) ih)
  · refine r_bipush (Y := YX9_broken) dX9_broken_12 ?_
    refine r_ireturn (Y := YX9_broken) dX9_broken_14 ?_
    first
      | (exfalso; omega)
      | (unfold brokenF; (repeat (first | rw [if_pos (by omega)] | rw [if_neg (by omega)])); exact ⟨rfl, hM, fun _ _ _ => rfl⟩)
