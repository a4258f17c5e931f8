/-! the model whole: soon -/
theorem fu_comm {α : Type} {f : Int → α} {i j : Int} {a b : α} (h : i ≠ j) : fu (fu f i a) j b = fu (fu f j b) i a := by
  funext k
  show (if k = j then b else if k = i then a else f k) = if k = i then a else if k = j then b else f k
  by_cases h1 : k = j
  · rw [if_pos h1, if_neg (by omega), if_pos h1]
  · rw [if_neg h1, if_neg h1]
def gv1 (s d : Int) (B : AB) (n : Nat) : AB := if bt s n = 0 then B else setB (setH B n 0) n (min 99 (aB B n + min 40 (aH B n + d)))
def gv1N (s d : Int) (A : AB) : Nat → AB
  | 0 => A
  | n + 1 => gv1 s d (gv1N s d A n) n
def wv2 (s r : Int) (B : AB) (n : Nat) : AB := if bt s n = 0 then B else weaveR B n r
def wv2N (s r : Int) (A : AB) : Nat → AB
  | 0 => A
  | n + 1 => wv2 s r (wv2N s r A n) n
theorem wv_gv {B : AB} {k n r h b : Int} (hne : k ≠ n) : weaveR (setB (setH B n h) n b) k r = setB (setH (weaveR B k r) n h) n b := by
  have e1 : aB (setB (setH B n h) n b) k = aB B k := fu_ne hne
  have e2 : aR (setB (setH B n h) n b) = aR B := rfl
  unfold weaveR
  rw [e1, e2]
  by_cases h1 : aB B k = 0
  · rw [if_pos h1, if_pos h1]
  · rw [if_neg h1, if_neg h1]
    by_cases h2 : 8 ≤ (aR B r).length
    · rw [if_pos h2, if_pos h2]
    · rw [if_neg h2, if_neg h2]
      have e3 : fu (fu (aB B) n b) k 0 = fu (fu (aB B) k 0) n b := fu_comm (fun e => hne e.symm)
      show (fu (aH B) n h, B.2.1, fu (fu (aB B) n b) k 0, B.2.2.2.1, fu (aR B) r (aR B r ++ [(k, aB B k, aWk B)]), B.2.2.2.2.2) = (fu (aH B) n h, B.2.1, fu (fu (aB B) k 0) n b, B.2.2.2.1, fu (aR B) r (aR B r ++ [(k, aB B k, aWk B)]), B.2.2.2.2.2)
      rw [e3]
theorem weave_B {B : AB} {k r n : Int} (h : n ≠ k) : aB (weaveR B k r) n = aB B n := by
  rcases weave_cases B k r with q | q | q
  · rw [q.2.2]
  · rw [q.2.2.2]
  · rw [q.2.2.2]; exact fu_ne h
theorem weave_H {B : AB} {k r : Int} : aH (weaveR B k r) = aH B := by
  rcases weave_cases B k r with q | q | q
  · rw [q.2.2]
  · rw [q.2.2.2]
  · rw [q.2.2.2]; rfl
theorem gv_wv {s d r : Int} {B : AB} {k n : Nat} (hne : k ≠ n) : gv1 s d (wv2 s r B k) n = wv2 s r (gv1 s d B n) k := by
  unfold gv1 wv2
  by_cases h1 : bt s k = 0
  · rw [if_pos h1, if_pos h1]
  · rw [if_neg h1, if_neg h1]
    by_cases h2 : bt s n = 0
    · rw [if_pos h2, if_pos h2]
    · rw [if_neg h2, if_neg h2, weave_B (by omega), weave_H, wv_gv (by omega)]
theorem gv_wvN {s d r : Int} {B : AB} {n : Nat} : ∀ k : Nat, k ≤ n → gv1 s d (wv2N s r B k) n = wv2N s r (gv1 s d B n) k
  | 0, _ => rfl
  | k + 1, h => by
    show gv1 s d (wv2 s r (wv2N s r B k) k) n = wv2 s r (wv2N s r (gv1 s d B n) k) k
    rw [gv_wv (by omega), gv_wvN k (by omega)]
theorem gv_step (s d r : Int) (X : AB) (n : Nat) : gvStep s d r X n = wv2 s r (gv1 s d X n) n := by
  unfold gvStep wv2 gv1
  by_cases h : bt s n = 0
  · rw [if_pos h, if_pos h, if_pos h]
  · rw [if_neg h, if_neg h, if_neg h]
theorem give_two {s d r : Int} {A : AB} : ∀ n : Nat, gvN s d r A n = wv2N s r (gv1N s d A n) n
  | 0 => rfl
  | n + 1 => by
    show gvStep s d r (gvN s d r A n) n = wv2 s r (wv2N s r (gv1 s d (gv1N s d A n) n) n) n
    rw [gv_step, give_two n, gv_wvN n (Nat.le_refl n)]
theorem WA_gv1N {s d : Int} {A : AB} (h : WA A) (hd : 0 ≤ d) : ∀ n : Nat, n ≤ 6 → WA (gv1N s d A n)
  | 0, _ => h
  | n + 1, hn => by
    have ih := WA_gv1N (s := s) h hd n (by omega)
    have h1 := ih.1 n (by omega) (by omega)
    have h2 := ih.2.2.1 n (by omega) (by omega)
    show WA (gv1 s d (gv1N s d A n) n)
    unfold gv1
    split
    · exact ih
    · exact WA_setB (WA_setH ih (by omega) (by omega)) (by omega) (by omega)
theorem WA_wv2N {s r : Int} {A : AB} (h : WA A) (hr : 0 ≤ r) (hr2 : r < 4) : ∀ n : Nat, n ≤ 6 → WA (wv2N s r A n)
  | 0, _ => h
  | n + 1, hn => by
    have ih := WA_wv2N (s := s) h hr hr2 n (by omega)
    show WA (wv2 s r (wv2N s r A n) n)
    unfold wv2
    split
    · exact ih
    · exact WA_weaveR ih (by omega) (by omega) hr hr2
set_option maxRecDepth 20000 in
theorem c_X9_sinAll {σ : ab_S} {m : Int} (hm : kd_ m 9 37) {B : AB} (hM : MT σ m B) (hW : WA B) {s d r : Int} (hs1 : 0 ≤ s) (hs2 : s < 64) (hd1 : 0 ≤ d) (hd2 : d ≤ 9) (hr1 : 0 ≤ r) (hr2 : r < 4) : C2 YX9_sinAll 1 σ [rf m, iv s, iv d, iv r] (PV fun σ' => MT σ' m (giveA s d r B) ∧ FM σ σ' m) := by
  obtain ⟨k1, k2, k3, k4, k5, k6, k7, k8, k9, k10, k11, k12, k13, k14, k15, k16, k17, k18, k19, k20, k21, k22, k23, k24, k25, k26⟩ := kd_model hm
  refine C2.of (by decide +kernel) (Nat.le_of_ble_eq_true rfl) ?_
  refine r_iconst (Y := YX9_sinAll) dX9_sinAll_0 ?_
  refine r_istore (Y := YX9_sinAll) dX9_sinAll_1 ?_
  suffices hloop : ∀ (k n : Nat) (τ : ab_S), n + k = 6 → MT τ m (gv1N s d B n) → FM σ τ m → R2 YX9_sinAll 1 τ 3 [some (rf m), some (iv s), some (iv d), some (iv r), some (iv n), none] [] (PV fun σ' => MT σ' m (giveA s d r B) ∧ FM σ σ' m) from
    R2.weak (by repeat first | exact trivial | refine And.intro rfl ?_) (hloop 6 0 σ rfl hM FM.rf)
  intro k
  induction k with
  | zero =>
    intro n τ0 e1 hB0 hF0
    have e2 : n = 6 := by omega
    subst e2
    have hW6 := WA_gv1N (s := s) hW hd1 6 (Nat.le_refl 6)
    refine r_iload (Y := YX9_sinAll) dX9_sinAll_3 rfl ?_
    refine r_bipush (Y := YX9_sinAll) dX9_sinAll_5 ?_
    refine r_icmp_ge (Y := YX9_sinAll) (tgt := 101) dX9_sinAll_7 (by decide) (fun c7 => ?_) (fun c7 => absurd c7 (by omega)) 
    refine r_iconst (Y := YX9_sinAll) dX9_sinAll_101 ?_
    refine r_istore (Y := YX9_sinAll) dX9_sinAll_102 ?_
    suffices hlo2 : ∀ (k n : Nat) (τ : ab_S), n + k = 6 → MT τ m (wv2N s r (gv1N s d B 6) n) → FM σ τ m → R2 YX9_sinAll 1 τ 104 [some (rf m), some (iv s), some (iv d), some (iv r), some (iv n), none] [] (PV fun σ' => MT σ' m (giveA s d r B) ∧ FM σ σ' m) from
      R2.weak (by repeat first | exact trivial | refine And.intro rfl ?_) (hlo2 6 0 τ0 rfl hB0 hF0)
    intro k
    induction k with
    | zero =>
      intro n τ e3 hB hF
      have e4 : n = 6 := by omega
      subst e4
      rw [← give_two] at hB
      refine r_iload (Y := YX9_sinAll) dX9_sinAll_104 rfl ?_
      refine r_bipush (Y := YX9_sinAll) dX9_sinAll_106 ?_
      refine r_icmp_ge (Y := YX9_sinAll) (tgt := 146) dX9_sinAll_108 (by decide) (fun c108 => ?_) (fun c108 => absurd c108 (by omega)) 
      refine r_return (Y := YX9_sinAll) dX9_sinAll_146 ?_
      exact ⟨hB, hF⟩
    | succ k ih =>
      intro n τ e3 hB hF
      have hb9 := bt_bd (s := s) (m := n) hs1 hs2 (by omega) (by omega)
      have hWB := WA_wv2N (s := s) hW6 hr1 hr2 n (by omega)
      have ih := ih (n + 1)
      have hgv : wv2N s r (gv1N s d B 6) (n + 1) = wv2 s r (wv2N s r (gv1N s d B 6) n) n := rfl
      rw [hgv] at ih
      generalize wv2N s r (gv1N s d B 6) n = C at hB hWB ih
      have hwc := weave_cases C n r
      have hnw := nz_bd (weaveZ_bd C n r).1 (weaveZ_bd C n r).2
      refine r_iload (Y := YX9_sinAll) dX9_sinAll_104 rfl ?_
      refine r_bipush (Y := YX9_sinAll) dX9_sinAll_106 ?_
      refine r_icmp_ge (Y := YX9_sinAll) (tgt := 146) dX9_sinAll_108 (by decide) (fun c108 => absurd c108 (by omega)) (fun c108 => ?_) 
      refine r_iload_n (Y := YX9_sinAll) dX9_sinAll_111 rfl ?_
      refine r_iload (Y := YX9_sinAll) dX9_sinAll_112 rfl ?_
      refine r_ishr (Y := YX9_sinAll) dX9_sinAll_114 ?_
      refine r_iconst (Y := YX9_sinAll) dX9_sinAll_115 ?_
      refine r_iand (Y := YX9_sinAll) dX9_sinAll_116 ?_
      refine r_iconst (Y := YX9_sinAll) dX9_sinAll_117 ?_
      change R2 _ _ _ _ _ (iv 1 :: iv (bt s n) :: _) _
      refine r_icmp_ne (Y := YX9_sinAll) (tgt := 140) dX9_sinAll_118 (by decide) (fun c118 => ?_) (fun c118 => ?_) 
      · refine r_iinc (Y := YX9_sinAll) dX9_sinAll_140 rfl ?_
        refine r_goto (Y := YX9_sinAll) (tgt := 104) dX9_sinAll_143 (by decide) ?_
        first
          | (have hst : wv2 s r C n = C := if_pos (by omega)
             rw [hst] at ih
             exact R2.weak (by repeat first | exact trivial | refine And.intro rfl ?_) (ih _ (by omega) hB hF))
          | (have hst : wv2 s r C n = weaveR C n r := if_neg (by omega)
             rw [hst] at ih
             first
               | exact R2.weak (by repeat first | exact trivial | refine And.intro rfl ?_) (ih _ (by omega) b1 (hF.tr b2))
               | (rw [weave_no (by omega)] at ih; exact R2.weak (by repeat first | exact trivial | refine And.intro rfl ?_) (ih _ (by omega) hB hF)))
      · refine r_aload_n (Y := YX9_sinAll) dX9_sinAll_121 rfl ?_
        refine r_iload (Y := YX9_sinAll) dX9_sinAll_122 rfl ?_
        refine r_iload_n (Y := YX9_sinAll) dX9_sinAll_124 rfl ?_
        refine r_iV2I (Y := YX9_sinAll) mv_X9_152 dX9_sinAll_125 (c_X9_whyNoLock hm hB hWB (by omega) (by omega) hr1 hr2) (by assumption) (fun σ125 z125 h125 => ?_)
        obtain ⟨e125, rfl⟩ := h125
        subst e125
        refine r_bipush (Y := YX9_sinAll) dX9_sinAll_128 ?_
        refine r_icmp_ne (Y := YX9_sinAll) (tgt := 140) dX9_sinAll_130 (by decide) (fun c130 => ?_) (fun c130 => ?_) 
        · refine r_iinc (Y := YX9_sinAll) dX9_sinAll_140 rfl ?_
          refine r_goto (Y := YX9_sinAll) (tgt := 104) dX9_sinAll_143 (by decide) ?_
          first
            | (have hst : wv2 s r C n = C := if_pos (by omega)
               rw [hst] at ih
               exact R2.weak (by repeat first | exact trivial | refine And.intro rfl ?_) (ih _ (by omega) hB hF))
            | (have hst : wv2 s r C n = weaveR C n r := if_neg (by omega)
               rw [hst] at ih
               first
                 | exact R2.weak (by repeat first | exact trivial | refine And.intro rfl ?_) (ih _ (by omega) b1 (hF.tr b2))
                 | (rw [weave_no (by omega)] at ih; exact R2.weak (by repeat first | exact trivial | refine And.intro rfl ?_) (ih _ (by omega) hB hF)))
        · refine r_aload_n (Y := YX9_sinAll) dX9_sinAll_133 rfl ?_
          refine r_iload (Y := YX9_sinAll) dX9_sinAll_134 rfl ?_
          refine r_iload_n (Y := YX9_sinAll) dX9_sinAll_136 rfl ?_
          have hq : (aR C r).length < 8 ∧ weaveR C n r = setB (setR C r (aR C r ++ [((n : Int), aB C n, aWk C)])) n 0 := by rcases hwc with q | q | q; (exfalso; omega); (exfalso; omega); exact ⟨by omega, q.2.2.2⟩
          refine r_iV2V (Y := YX9_sinAll) mv_X9_155 dX9_sinAll_137 (c_X9_weave hm hB hWB (by omega) (by omega) hr1 hr2 hq.1) (by assumption) (fun σ137 h137 => ?_)
          obtain ⟨b1, b2⟩ := h137
          rw [← hq.2] at b1
          refine r_iinc (Y := YX9_sinAll) dX9_sinAll_140 rfl ?_
          refine r_goto (Y := YX9_sinAll) (tgt := 104) dX9_sinAll_143 (by decide) ?_
          first
            | (have hst : wv2 s r C n = C := if_pos (by omega)
               rw [hst] at ih
               exact R2.weak (by repeat first | exact trivial | refine And.intro rfl ?_) (ih _ (by omega) hB hF))
            | (have hst : wv2 s r C n = weaveR C n r := if_neg (by omega)
               rw [hst] at ih
               first
                 | exact R2.weak (by repeat first | exact trivial | refine And.intro rfl ?_) (ih _ (by omega) b1 (hF.tr b2))
                 | (rw [weave_no (by omega)] at ih; exact R2.weak (by repeat first | exact trivial | refine And.intro rfl ?_) (ih _ (by omega) hB hF)))
  | succ k ih =>
    intro n τ e1 hB hF
    have hb9 := bt_bd (s := s) (m := n) hs1 hs2 (by omega) (by omega)
    have hWB := WA_gv1N (s := s) hW hd1 n (by omega)
    have ih := ih (n + 1)
    have hgv : gv1N s d B (n + 1) = gv1 s d (gv1N s d B n) n := rfl
    rw [hgv] at ih
    generalize gv1N s d B n = C at hB hWB ih
    have hhn := hWB.1 n (by omega) (by omega)
    have hbn := hWB.2.2.1 n (by omega) (by omega)
    refine r_iload (Y := YX9_sinAll) dX9_sinAll_3 rfl ?_
    refine r_bipush (Y := YX9_sinAll) dX9_sinAll_5 ?_
    refine r_icmp_ge (Y := YX9_sinAll) (tgt := 101) dX9_sinAll_7 (by decide) (fun c7 => absurd c7 (by omega)) (fun c7 => ?_) 
    refine r_iload_n (Y := YX9_sinAll) dX9_sinAll_10 rfl ?_
    refine r_iload (Y := YX9_sinAll) dX9_sinAll_11 rfl ?_
    refine r_ishr (Y := YX9_sinAll) dX9_sinAll_13 ?_
    refine r_iconst (Y := YX9_sinAll) dX9_sinAll_14 ?_
    refine r_iand (Y := YX9_sinAll) dX9_sinAll_15 ?_
    refine r_iconst (Y := YX9_sinAll) dX9_sinAll_16 ?_
    change R2 _ _ _ _ _ (iv 1 :: iv (bt s n) :: _) _
    refine r_icmp_ne (Y := YX9_sinAll) (tgt := 95) dX9_sinAll_17 (by decide) (fun c17 => ?_) (fun c17 => ?_) 
    · refine r_iinc (Y := YX9_sinAll) dX9_sinAll_95 rfl ?_
      refine r_goto (Y := YX9_sinAll) (tgt := 3) dX9_sinAll_98 (by decide) ?_
      first
        | (have hst : gv1 s d C n = C := if_pos (by omega)
           rw [hst] at ih
           exact R2.weak (by repeat first | exact trivial | refine And.intro rfl ?_) (ih _ (by omega) hB hF))
        | (have hst : gv1 s d C n = setH (setB C n (min 99 (aB C n + min 40 (aH C n + d)))) n 0 := if_neg (by omega)
           rw [hst] at ih
           first
             | (rw [show min 99 (aB C n + min 40 (aH C n + d)) = 99 by omega] at ih; exact R2.weak (by repeat first | exact trivial | refine And.intro rfl ?_) (ih _ (by omega) ((hB.bask (up_same _ _ _ _) (fun k i a b => by (try delta up); (try delta cpy); (try dsimp only); repeat (first | rw [if_pos (by omega)] | rw [if_neg (by omega)]); try (first | rfl | assumption | omega))).hair (up_same _ _ _ _) (fun k i a b => by (try delta up); (try delta cpy); (try dsimp only); repeat (first | rw [if_pos (by omega)] | rw [if_neg (by omega)]); try (first | rfl | assumption | omega))) (hF.tr (fun k i a b => by (try delta up); (try delta cpy); (try dsimp only); repeat (first | rw [if_pos (by omega)] | rw [if_neg (by omega)]); try (first | rfl | assumption | omega)))))
             | (rw [show min 99 (aB C n + min 40 (aH C n + d)) = aB C n + 40 by omega] at ih; exact R2.weak (by repeat first | exact trivial | refine And.intro rfl ?_) (ih _ (by omega) ((hB.bask (up_same _ _ _ _) (fun k i a b => by (try delta up); (try delta cpy); (try dsimp only); repeat (first | rw [if_pos (by omega)] | rw [if_neg (by omega)]); try (first | rfl | assumption | omega))).hair (up_same _ _ _ _) (fun k i a b => by (try delta up); (try delta cpy); (try dsimp only); repeat (first | rw [if_pos (by omega)] | rw [if_neg (by omega)]); try (first | rfl | assumption | omega))) (hF.tr (fun k i a b => by (try delta up); (try delta cpy); (try dsimp only); repeat (first | rw [if_pos (by omega)] | rw [if_neg (by omega)]); try (first | rfl | assumption | omega)))))
             | (rw [show min 99 (aB C n + min 40 (aH C n + d)) = aB C n + (aH C n + d) by omega] at ih; exact R2.weak (by repeat first | exact trivial | refine And.intro rfl ?_) (ih _ (by omega) ((hB.bask (up_same _ _ _ _) (fun k i a b => by (try delta up); (try delta cpy); (try dsimp only); repeat (first | rw [if_pos (by omega)] | rw [if_neg (by omega)]); try (first | rfl | assumption | omega))).hair (up_same _ _ _ _) (fun k i a b => by (try delta up); (try delta cpy); (try dsimp only); repeat (first | rw [if_pos (by omega)] | rw [if_neg (by omega)]); try (first | rfl | assumption | omega))) (hF.tr (fun k i a b => by (try delta up); (try delta cpy); (try dsimp only); repeat (first | rw [if_pos (by omega)] | rw [if_neg (by omega)]); try (first | rfl | assumption | omega)))))
           )
    · refine r_aload_n (Y := YX9_sinAll) dX9_sinAll_20 rfl ?_
      refine r_getR (Y := YX9_sinAll) (δz := 13) fl_X9_46 dX9_sinAll_21 rfl rfl ?_
      refine r_iload (Y := YX9_sinAll) dX9_sinAll_24 rfl ?_
      refine r_iaV (Y := YX9_sinAll) (v := aH C n) dX9_sinAll_26 (hB.1 n (by omega) (by omega)) ?_
      refine r_iload_n (Y := YX9_sinAll) dX9_sinAll_27 rfl ?_
      refine r_iadd (Y := YX9_sinAll) dX9_sinAll_28 ?_
      refine r_bipush (Y := YX9_sinAll) dX9_sinAll_29 ?_
      refine r_icmp_le (Y := YX9_sinAll) (tgt := 39) dX9_sinAll_31 (by decide) (fun c31 => ?_) (fun c31 => ?_) 
      · refine r_aload_n (Y := YX9_sinAll) dX9_sinAll_39 rfl ?_
        refine r_getR (Y := YX9_sinAll) (δz := 13) fl_X9_46 dX9_sinAll_40 rfl rfl ?_
        refine r_iload (Y := YX9_sinAll) dX9_sinAll_43 rfl ?_
        refine r_iaV (Y := YX9_sinAll) (v := aH C n) dX9_sinAll_45 (hB.1 n (by omega) (by omega)) ?_
        refine r_iload_n (Y := YX9_sinAll) dX9_sinAll_46 rfl ?_
        refine r_iadd (Y := YX9_sinAll) dX9_sinAll_47 ?_
        refine r_istore (Y := YX9_sinAll) dX9_sinAll_48 ?_
        refine r_aload_n (Y := YX9_sinAll) dX9_sinAll_50 rfl ?_
        refine r_getR (Y := YX9_sinAll) (δz := 14) fl_X9_49 dX9_sinAll_51 rfl rfl ?_
        refine r_iload (Y := YX9_sinAll) dX9_sinAll_54 rfl ?_
        refine r_aload_n (Y := YX9_sinAll) dX9_sinAll_56 rfl ?_
        refine r_getR (Y := YX9_sinAll) (δz := 14) fl_X9_49 dX9_sinAll_57 rfl rfl ?_
        refine r_iload (Y := YX9_sinAll) dX9_sinAll_60 rfl ?_
        refine r_iaV (Y := YX9_sinAll) (v := aB C n) dX9_sinAll_62 (hB.2.2.1 n (by omega) (by omega)) ?_
        refine r_iload (Y := YX9_sinAll) dX9_sinAll_63 rfl ?_
        refine r_iadd (Y := YX9_sinAll) dX9_sinAll_65 ?_
        refine r_bipush (Y := YX9_sinAll) dX9_sinAll_66 ?_
        refine r_icmp_le (Y := YX9_sinAll) (tgt := 76) dX9_sinAll_68 (by decide) (fun c68 => ?_) (fun c68 => ?_) 
        · refine r_aload_n (Y := YX9_sinAll) dX9_sinAll_76 rfl ?_
          refine r_getR (Y := YX9_sinAll) (δz := 14) fl_X9_49 dX9_sinAll_77 rfl rfl ?_
          refine r_iload (Y := YX9_sinAll) dX9_sinAll_80 rfl ?_
          refine r_iaV (Y := YX9_sinAll) (v := aB C n) dX9_sinAll_82 (hB.2.2.1 n (by omega) (by omega)) ?_
          refine r_iload (Y := YX9_sinAll) dX9_sinAll_83 rfl ?_
          refine r_iadd (Y := YX9_sinAll) dX9_sinAll_85 ?_
          refine r_iastore (Y := YX9_sinAll) dX9_sinAll_86 ?_
          refine r_aload_n (Y := YX9_sinAll) dX9_sinAll_87 rfl ?_
          refine r_getR (Y := YX9_sinAll) (δz := 13) fl_X9_46 dX9_sinAll_88 rfl rfl ?_
          refine r_iload (Y := YX9_sinAll) dX9_sinAll_91 rfl ?_
          refine r_iconst (Y := YX9_sinAll) dX9_sinAll_93 ?_
          refine r_iastore (Y := YX9_sinAll) dX9_sinAll_94 ?_
          refine r_iinc (Y := YX9_sinAll) dX9_sinAll_95 rfl ?_
          refine r_goto (Y := YX9_sinAll) (tgt := 3) dX9_sinAll_98 (by decide) ?_
          first
            | (have hst : gv1 s d C n = C := if_pos (by omega)
               rw [hst] at ih
               exact R2.weak (by repeat first | exact trivial | refine And.intro rfl ?_) (ih _ (by omega) hB hF))
            | (have hst : gv1 s d C n = setH (setB C n (min 99 (aB C n + min 40 (aH C n + d)))) n 0 := if_neg (by omega)
               rw [hst] at ih
               first
                 | (rw [show min 99 (aB C n + min 40 (aH C n + d)) = 99 by omega] at ih; exact R2.weak (by repeat first | exact trivial | refine And.intro rfl ?_) (ih _ (by omega) ((hB.bask (up_same _ _ _ _) (fun k i a b => by (try delta up); (try delta cpy); (try dsimp only); repeat (first | rw [if_pos (by omega)] | rw [if_neg (by omega)]); try (first | rfl | assumption | omega))).hair (up_same _ _ _ _) (fun k i a b => by (try delta up); (try delta cpy); (try dsimp only); repeat (first | rw [if_pos (by omega)] | rw [if_neg (by omega)]); try (first | rfl | assumption | omega))) (hF.tr (fun k i a b => by (try delta up); (try delta cpy); (try dsimp only); repeat (first | rw [if_pos (by omega)] | rw [if_neg (by omega)]); try (first | rfl | assumption | omega)))))
                 | (rw [show min 99 (aB C n + min 40 (aH C n + d)) = aB C n + 40 by omega] at ih; exact R2.weak (by repeat first | exact trivial | refine And.intro rfl ?_) (ih _ (by omega) ((hB.bask (up_same _ _ _ _) (fun k i a b => by (try delta up); (try delta cpy); (try dsimp only); repeat (first | rw [if_pos (by omega)] | rw [if_neg (by omega)]); try (first | rfl | assumption | omega))).hair (up_same _ _ _ _) (fun k i a b => by (try delta up); (try delta cpy); (try dsimp only); repeat (first | rw [if_pos (by omega)] | rw [if_neg (by omega)]); try (first | rfl | assumption | omega))) (hF.tr (fun k i a b => by (try delta up); (try delta cpy); (try dsimp only); repeat (first | rw [if_pos (by omega)] | rw [if_neg (by omega)]); try (first | rfl | assumption | omega)))))
                 | (rw [show min 99 (aB C n + min 40 (aH C n + d)) = aB C n + (aH C n + d) by omega] at ih; exact R2.weak (by repeat first | exact trivial | refine And.intro rfl ?_) (ih _ (by omega) ((hB.bask (up_same _ _ _ _) (fun k i a b => by (try delta up); (try delta cpy); (try dsimp only); repeat (first | rw [if_pos (by omega)] | rw [if_neg (by omega)]); try (first | rfl | assumption | omega))).hair (up_same _ _ _ _) (fun k i a b => by (try delta up); (try delta cpy); (try dsimp only); repeat (first | rw [if_pos (by omega)] | rw [if_neg (by omega)]); try (first | rfl | assumption | omega))) (hF.tr (fun k i a b => by (try delta up); (try delta cpy); (try dsimp only); repeat (first | rw [if_pos (by omega)] | rw [if_neg (by omega)]); try (first | rfl | assumption | omega)))))
               )
        · refine r_bipush (Y := YX9_sinAll) dX9_sinAll_71 ?_
          refine r_goto (Y := YX9_sinAll) (tgt := 86) dX9_sinAll_73 (by decide) ?_
          refine r_iastore (Y := YX9_sinAll) dX9_sinAll_86 ?_
          refine r_aload_n (Y := YX9_sinAll) dX9_sinAll_87 rfl ?_
          refine r_getR (Y := YX9_sinAll) (δz := 13) fl_X9_46 dX9_sinAll_88 rfl rfl ?_
          refine r_iload (Y := YX9_sinAll) dX9_sinAll_91 rfl ?_
          refine r_iconst (Y := YX9_sinAll) dX9_sinAll_93 ?_
          refine r_iastore (Y := YX9_sinAll) dX9_sinAll_94 ?_
          refine r_iinc (Y := YX9_sinAll) dX9_sinAll_95 rfl ?_
          refine r_goto (Y := YX9_sinAll) (tgt := 3) dX9_sinAll_98 (by decide) ?_
          first
            | (have hst : gv1 s d C n = C := if_pos (by omega)
               rw [hst] at ih
               exact R2.weak (by repeat first | exact trivial | refine And.intro rfl ?_) (ih _ (by omega) hB hF))
            | (have hst : gv1 s d C n = setH (setB C n (min 99 (aB C n + min 40 (aH C n + d)))) n 0 := if_neg (by omega)
               rw [hst] at ih
               first
                 | (rw [show min 99 (aB C n + min 40 (aH C n + d)) = 99 by omega] at ih; exact R2.weak (by repeat first | exact trivial | refine And.intro rfl ?_) (ih _ (by omega) ((hB.bask (up_same _ _ _ _) (fun k i a b => by (try delta up); (try delta cpy); (try dsimp only); repeat (first | rw [if_pos (by omega)] | rw [if_neg (by omega)]); try (first | rfl | assumption | omega))).hair (up_same _ _ _ _) (fun k i a b => by (try delta up); (try delta cpy); (try dsimp only); repeat (first | rw [if_pos (by omega)] | rw [if_neg (by omega)]); try (first | rfl | assumption | omega))) (hF.tr (fun k i a b => by (try delta up); (try delta cpy); (try dsimp only); repeat (first | rw [if_pos (by omega)] | rw [if_neg (by omega)]); try (first | rfl | assumption | omega)))))
                 | (rw [show min 99 (aB C n + min 40 (aH C n + d)) = aB C n + 40 by omega] at ih; exact R2.weak (by repeat first | exact trivial | refine And.intro rfl ?_) (ih _ (by omega) ((hB.bask (up_same _ _ _ _) (fun k i a b => by (try delta up); (try delta cpy); (try dsimp only); repeat (first | rw [if_pos (by omega)] | rw [if_neg (by omega)]); try (first | rfl | assumption | omega))).hair (up_same _ _ _ _) (fun k i a b => by (try delta up); (try delta cpy); (try dsimp only); repeat (first | rw [if_pos (by omega)] | rw [if_neg (by omega)]); try (first | rfl | assumption | omega))) (hF.tr (fun k i a b => by (try delta up); (try delta cpy); (try dsimp only); repeat (first | rw [if_pos (by omega)] | rw [if_neg (by omega)]); try (first | rfl | assumption | omega)))))
                 | (rw [show min 99 (aB C n + min 40 (aH C n + d)) = aB C n + (aH C n + d) by omega] at ih; exact R2.weak (by repeat first | exact trivial | refine And.intro rfl ?_) (ih _ (by omega) ((hB.bask (up_same _ _ _ _) (fun k i a b => by (try delta up); (try delta cpy); (try dsimp only); repeat (first | rw [if_pos (by omega)] | rw [if_neg (by omega)]); try (first | rfl | assumption | omega))).hair (up_same _ _ _ _) (fun k i a b => by (try delta up); (try delta cpy); (try dsimp only); repeat (first | rw [if_pos (by omega)] | rw [if_neg (by omega)]); try (first | rfl | assumption | omega))) (hF.tr (fun k i a b => by (try delta up); (try delta cpy); (try dsimp only); repeat (first | rw [if_pos (by omega)] | rw [if_neg (by omega)]); try (first | rfl | assumption | omega)))))
               )
      · refine r_bipush (Y := YX9_sinAll) dX9_sinAll_34 ?_
        refine r_goto (Y := YX9_sinAll) (tgt := 48) dX9_sinAll_36 (by decide) ?_
        refine r_istore (Y := YX9_sinAll) dX9_sinAll_48 ?_
        refine r_aload_n (Y := YX9_sinAll) dX9_sinAll_50 rfl ?_
        refine r_getR (Y := YX9_sinAll) (δz := 14) fl_X9_49 dX9_sinAll_51 rfl rfl ?_
        refine r_iload (Y := YX9_sinAll) dX9_sinAll_54 rfl ?_
        refine r_aload_n (Y := YX9_sinAll) dX9_sinAll_56 rfl ?_
        refine r_getR (Y := YX9_sinAll) (δz := 14) fl_X9_49 dX9_sinAll_57 rfl rfl ?_
        refine r_iload (Y := YX9_sinAll) dX9_sinAll_60 rfl ?_
        refine r_iaV (Y := YX9_sinAll) (v := aB C n) dX9_sinAll_62 (hB.2.2.1 n (by omega) (by omega)) ?_
        refine r_iload (Y := YX9_sinAll) dX9_sinAll_63 rfl ?_
        refine r_iadd (Y := YX9_sinAll) dX9_sinAll_65 ?_
        refine r_bipush (Y := YX9_sinAll) dX9_sinAll_66 ?_
        refine r_icmp_le (Y := YX9_sinAll) (tgt := 76) dX9_sinAll_68 (by decide) (fun c68 => ?_) (fun c68 => ?_) 
        · refine r_aload_n (Y := YX9_sinAll) dX9_sinAll_76 rfl ?_
          refine r_getR (Y := YX9_sinAll) (δz := 14) fl_X9_49 dX9_sinAll_77 rfl rfl ?_
          refine r_iload (Y := YX9_sinAll) dX9_sinAll_80 rfl ?_
          refine r_iaV (Y := YX9_sinAll) (v := aB C n) dX9_sinAll_82 (hB.2.2.1 n (by omega) (by omega)) ?_
          refine r_iload (Y := YX9_sinAll) dX9_sinAll_83 rfl ?_
          refine r_iadd (Y := YX9_sinAll) dX9_sinAll_85 ?_
          refine r_iastore (Y := YX9_sinAll) dX9_sinAll_86 ?_
          refine r_aload_n (Y := YX9_sinAll) dX9_sinAll_87 rfl ?_
          refine r_getR (Y := YX9_sinAll) (δz := 13) fl_X9_46 dX9_sinAll_88 rfl rfl ?_
          refine r_iload (Y := YX9_sinAll) dX9_sinAll_91 rfl ?_
          refine r_iconst (Y := YX9_sinAll) dX9_sinAll_93 ?_
          refine r_iastore (Y := YX9_sinAll) dX9_sinAll_94 ?_
          refine r_iinc (Y := YX9_sinAll) dX9_sinAll_95 rfl ?_
          refine r_goto (Y := YX9_sinAll) (tgt := 3) dX9_sinAll_98 (by decide) ?_
          first
            | (have hst : gv1 s d C n = C := if_pos (by omega)
               rw [hst] at ih
               exact R2.weak (by repeat first | exact trivial | refine And.intro rfl ?_) (ih _ (by omega) hB hF))
            | (have hst : gv1 s d C n = setH (setB C n (min 99 (aB C n + min 40 (aH C n + d)))) n 0 := if_neg (by omega)
               rw [hst] at ih
               first
                 | (rw [show min 99 (aB C n + min 40 (aH C n + d)) = 99 by omega] at ih; exact R2.weak (by repeat first | exact trivial | refine And.intro rfl ?_) (ih _ (by omega) ((hB.bask (up_same _ _ _ _) (fun k i a b => by (try delta up); (try delta cpy); (try dsimp only); repeat (first | rw [if_pos (by omega)] | rw [if_neg (by omega)]); try (first | rfl | assumption | omega))).hair (up_same _ _ _ _) (fun k i a b => by (try delta up); (try delta cpy); (try dsimp only); repeat (first | rw [if_pos (by omega)] | rw [if_neg (by omega)]); try (first | rfl | assumption | omega))) (hF.tr (fun k i a b => by (try delta up); (try delta cpy); (try dsimp only); repeat (first | rw [if_pos (by omega)] | rw [if_neg (by omega)]); try (first | rfl | assumption | omega)))))
                 | (rw [show min 99 (aB C n + min 40 (aH C n + d)) = aB C n + 40 by omega] at ih; exact R2.weak (by repeat first | exact trivial | refine And.intro rfl ?_) (ih _ (by omega) ((hB.bask (up_same _ _ _ _) (fun k i a b => by (try delta up); (try delta cpy); (try dsimp only); repeat (first | rw [if_pos (by omega)] | rw [if_neg (by omega)]); try (first | rfl | assumption | omega))).hair (up_same _ _ _ _) (fun k i a b => by (try delta up); (try delta cpy); (try dsimp only); repeat (first | rw [if_pos (by omega)] | rw [if_neg (by omega)]); try (first | rfl | assumption | omega))) (hF.tr (fun k i a b => by (try delta up); (try delta cpy); (try dsimp only); repeat (first | rw [if_pos (by omega)] | rw [if_neg (by omega)]); try (first | rfl | assumption | omega)))))
                 | (rw [show min 99 (aB C n + min 40 (aH C n + d)) = aB C n + (aH C n + d) by omega] at ih; exact R2.weak (by repeat first | exact trivial | refine And.intro rfl ?_) (ih _ (by omega) ((hB.bask (up_same _ _ _ _) (fun k i a b => by (try delta up); (try delta cpy); (try dsimp only); repeat (first | rw [if_pos (by omega)] | rw [if_neg (by omega)]); try (first | rfl | assumption | omega))).hair (up_same _ _ _ _) (fun k i a b => by (try delta up); (try delta cpy); (try dsimp only); repeat (first | rw [if_pos (by omega)] | rw [if_neg (by omega)]); try (first | rfl | assumption | omega))) (hF.tr (fun k i a b => by (try delta up); (try delta cpy); (try dsimp only); repeat (first | rw [if_pos (by omega)] | rw [if_neg (by omega)]); try (first | rfl | assumption | omega)))))
               )
        · refine r_bipush (Y := YX9_sinAll) dX9_sinAll_71 ?_
          refine r_goto (Y := YX9_sinAll) (tgt := 86) dX9_sinAll_73 (by decide) ?_
          refine r_iastore (Y := YX9_sinAll) dX9_sinAll_86 ?_
          refine r_aload_n (Y := YX9_sinAll) dX9_sinAll_87 rfl ?_
          refine r_getR (Y := YX9_sinAll) (δz := 13) fl_X9_46 dX9_sinAll_88 rfl rfl ?_
          refine r_iload (Y := YX9_sinAll) dX9_sinAll_91 rfl ?_
          refine r_iconst (Y := YX9_sinAll) dX9_sinAll_93 ?_
          refine r_iastore (Y := YX9_sinAll) dX9_sinAll_94 ?_
          refine r_iinc (Y := YX9_sinAll) dX9_sinAll_95 rfl ?_
          refine r_goto (Y := YX9_sinAll) (tgt := 3) dX9_sinAll_98 (by decide) ?_
          first
            | (have hst : gv1 s d C n = C := if_pos (by omega)
               rw [hst] at ih
               exact R2.weak (by repeat first | exact trivial | refine And.intro rfl ?_) (ih _ (by omega) hB hF))
            | (have hst : gv1 s d C n = setH (setB C n (min 99 (aB C n + min 40 (aH C n + d)))) n 0 := if_neg (by omega)
               rw [hst] at ih
               first
                 | (rw [show min 99 (aB C n + min 40 (aH C n + d)) = 99 by omega] at ih; exact R2.weak (by repeat first | exact trivial | refine And.intro rfl ?_) (ih _ (by omega) ((hB.bask (up_same _ _ _ _) (fun k i a b => by (try delta up); (try delta cpy); (try dsimp only); repeat (first | rw [if_pos (by omega)] | rw [if_neg (by omega)]); try (first | rfl | assumption | omega))).hair (up_same _ _ _ _) (fun k i a b => by (try delta up); (try delta cpy); (try dsimp only); repeat (first | rw [if_pos (by omega)] | rw [if_neg (by omega)]); try (first | rfl | assumption | omega))) (hF.tr (fun k i a b => by (try delta up); (try delta cpy); (try dsimp only); repeat (first | rw [if_pos (by omega)] | rw [if_neg (by omega)]); try (first | rfl | assumption | omega)))))
                 | (rw [show min 99 (aB C n + min 40 (aH C n + d)) = aB C n + 40 by omega] at ih; exact R2.weak (by repeat first | exact trivial | refine And.intro rfl ?_) (ih _ (by omega) ((hB.bask (up_same _ _ _ _) (fun k i a b => by (try delta up); (try delta cpy); (try dsimp only); repeat (first | rw [if_pos (by omega)] | rw [if_neg (by omega)]); try (first | rfl | assumption | omega))).hair (up_same _ _ _ _) (fun k i a b => by (try delta up); (try delta cpy); (try dsimp only); repeat (first | rw [if_pos (by omega)] | rw [if_neg (by omega)]); try (first | rfl | assumption | omega))) (hF.tr (fun k i a b => by (try delta up); (try delta cpy); (try dsimp only); repeat (first | rw [if_pos (by omega)] | rw [if_neg (by omega)]); try (first | rfl | assumption | omega)))))
                 | (rw [show min 99 (aB C n + min 40 (aH C n + d)) = aB C n + (aH C n + d) by omega] at ih; exact R2.weak (by repeat first | exact trivial | refine And.intro rfl ?_) (ih _ (by omega) ((hB.bask (up_same _ _ _ _) (fun k i a b => by (try delta up); (try delta cpy); (try dsimp only); repeat (first | rw [if_pos (by omega)] | rw [if_neg (by omega)]); try (first | rfl | assumption | omega))).hair (up_same _ _ _ _) (fun k i a b => by (try delta up); (try delta cpy); (try dsimp only); repeat (first | rw [if_pos (by omega)] | rw [if_neg (by omega)]); try (first | rfl | assumption | omega))) (hF.tr (fun k i a b => by (try delta up); (try delta cpy); (try dsimp only); repeat (first | rw [if_pos (by omega)] | rw [if_neg (by omega)]); try (first | rfl | assumption | omega)))))
               )
set_option maxRecDepth 20000 in
theorem c_X9_soon {σ : ab_S} {m : Int} {G : GS} (hm : kd_ m 9 37) (hM : HM σ m G) (hG : OKG G) {s : Int} (hs1 : -2147483648 ≤ s) (hs2 : s ≤ 2147483647) {d : Int} (hd1 : -2147483648 ≤ d) (hd2 : d ≤ 2147483647) {r : Int} (hr1 : -2147483648 ≤ r) (hr2 : r ≤ 2147483647) {n : Int} (hn1 : -2147483648 ≤ n) (hn2 : n ≤ 2147483647) : C2 YX9_soon 3 σ [rf m, iv s, iv d, iv r, iv n] (PI fun σ' z => z = (soonF G s d r n).1 ∧ HM σ' m (soonF G s d r n).2 ∧ FY σ σ' m) := by
  obtain ⟨k1, k2, k3, k4, k5, k6, k7, k8, k9, k10, k11, k12, k13, k14, k15, k16, k17, k18, k19, k20, k21, k22, k23, k24, k25, k26⟩ := kd_model hm
  have hA := hM.1
  have hW := hG.1.1.1
  have hWL := hG.1.1.2
  refine C2.of (by decide +kernel) (Nat.le_of_ble_eq_true rfl) ?_
  refine r_iload_n (Y := YX9_soon) dX9_soon_0 rfl ?_
  refine r_iS1I (Y := YX9_soon) ms_X9_182 dX9_soon_1 (c_isRope (by omega) (by omega)) (fun σ1 z1 h1 => ?_)
  obtain ⟨rfl, h1⟩ := h1
  refine r_if_ne (Y := YX9_soon) (tgt := 9) dX9_soon_4 (by decide) (fun c4 => ?_) (fun c4 => ?_) 
  · refine r_iload_n (Y := YX9_soon) dX9_soon_9 rfl ?_
    refine r_i2l (Y := YX9_soon) dX9_soon_10 ?_
    refine r_lconst (Y := YX9_soon) (v := 1) dX9_soon_11 rfl ?_
    refine r_ldc2 (Y := YX9_soon) (z := 63) wc_X9_226 dX9_soon_12 (by decide) ?_
    refine r_iS3I (Y := YX9_soon) ms_X9_95 dX9_soon_15 (c_in (by omega) (by omega) (by omega) (by omega) (by omega) (by omega)) (fun σ15 z15 h15 => ?_)
    obtain ⟨rfl, h15⟩ := h15
    refine r_if_eq (Y := YX9_soon) (tgt := 46) dX9_soon_18 (by decide) (fun c18 => ?_) (fun c18 => ?_) 
    · refine r_bipush (Y := YX9_soon) dX9_soon_46 ?_
      refine r_ireturn (Y := YX9_soon) dX9_soon_48 ?_
      first
        | (exfalso; omega)
        | (unfold soonF; (repeat (first | rw [if_pos (by omega)] | rw [if_neg (by omega)])); exact ⟨rfl, hM, fun _ _ _ => rfl⟩)
    · refine r_iload_n (Y := YX9_soon) dX9_soon_21 rfl ?_
      refine r_i2l (Y := YX9_soon) dX9_soon_22 ?_
      refine r_lconst (Y := YX9_soon) (v := 1) dX9_soon_23 rfl ?_
      refine r_ldc2 (Y := YX9_soon) (z := 9) wc_X9_124 dX9_soon_24 (by decide) ?_
      refine r_iS3I (Y := YX9_soon) ms_X9_95 dX9_soon_27 (c_in (by omega) (by omega) (by omega) (by omega) (by omega) (by omega)) (fun σ27 z27 h27 => ?_)
      obtain ⟨rfl, h27⟩ := h27
      refine r_if_eq (Y := YX9_soon) (tgt := 46) dX9_soon_30 (by decide) (fun c30 => ?_) (fun c30 => ?_) 
      · refine r_bipush (Y := YX9_soon) dX9_soon_46 ?_
        refine r_ireturn (Y := YX9_soon) dX9_soon_48 ?_
        first
          | (exfalso; omega)
          | (unfold soonF; (repeat (first | rw [if_pos (by omega)] | rw [if_neg (by omega)])); exact ⟨rfl, hM, fun _ _ _ => rfl⟩)
      · refine r_iload (Y := YX9_soon) dX9_soon_33 rfl ?_
        refine r_i2l (Y := YX9_soon) dX9_soon_35 ?_
        refine r_lconst (Y := YX9_soon) (v := 0) dX9_soon_36 rfl ?_
        refine r_ldc2 (Y := YX9_soon) (z := 9999) wc_X9_202 dX9_soon_37 (by decide) ?_
        refine r_iS3I (Y := YX9_soon) ms_X9_95 dX9_soon_40 (c_in (by omega) (by omega) (by omega) (by omega) (by omega) (by omega)) (fun σ40 z40 h40 => ?_)
        obtain ⟨rfl, h40⟩ := h40
        refine r_if_ne (Y := YX9_soon) (tgt := 49) dX9_soon_43 (by decide) (fun c43 => ?_) (fun c43 => ?_) 
        · refine r_aload_n (Y := YX9_soon) dX9_soon_49 rfl ?_
          refine r_iV0V (Y := YX9_soon) mv_X9_159 dX9_soon_50 (c_layNow hm hA hW) (by assumption) (fun σ50 h50 => ?_)
          obtain ⟨t1, t2⟩ := h50
          have hM2 := hM.fm t2
          refine r_iconst (Y := YX9_soon) dX9_soon_53 ?_
          refine r_istore (Y := YX9_soon) dX9_soon_54 ?_
          suffices hloop : ∀ (k w : Nat) (B : AB) (τ : ab_S), w + k = 31 → soonN s d r n k w B = soonN s d r n 31 0 G.1.1 → MT τ m B → WA B → FM σ40 τ m → R2 YX9_soon 3 τ 56 [some (rf m), some (iv s), some (iv d), some (iv r), some (iv n), some (iv w)] [] (PI fun σ' z => z = (soonF G s d r n).1 ∧ HM σ' m (soonF G s d r n).2 ∧ FY σ40 σ' m) from
            R2.weak (by repeat first | exact trivial | refine And.intro rfl ?_) (hloop 31 0 G.1.1 σ50 rfl rfl t1 hW t2)
          have hsf : soonF G s d r n = (soonN s d r n 31 0 G.1.1, G) := by unfold soonF; (repeat (first | rw [if_pos (by omega)] | rw [if_neg (by omega)]))
          rw [hsf]
          intro k
          induction k with
          | zero =>
            intro w B τ e1 e2 e3 e4 e5
            have e6 : w = 31 := by omega
            subst e6
            refine r_iload (Y := YX9_soon) dX9_soon_56 rfl ?_
            refine r_bipush (Y := YX9_soon) dX9_soon_58 ?_
            refine r_icmp_gt (Y := YX9_soon) (tgt := 92) dX9_soon_60 (by decide) (fun c60 => ?_) (fun c60 => absurd c60 (by omega)) 
            refine r_bipush (Y := YX9_soon) dX9_soon_92 ?_
            refine r_ireturn (Y := YX9_soon) dX9_soon_94 ?_
            exact ⟨e2, hM.fm e5, e5.fy⟩
          | succ k ih =>
            intro w B τ e1 e2 e3 e4 e5
            have hbb := bears_bd e4 (Int.le_refl 0)
            have e7 : (if n ≤ bearsA B 0 then (w : Int) else soonN s d r n k (w + 1) (weekA (giveA s d r B))) = soonN s d r n 31 0 G.1.1 := e2
            refine r_iload (Y := YX9_soon) dX9_soon_56 rfl ?_
            refine r_bipush (Y := YX9_soon) dX9_soon_58 ?_
            refine r_icmp_gt (Y := YX9_soon) (tgt := 92) dX9_soon_60 (by decide) (fun c60 => absurd c60 (by omega)) (fun c60 => ?_) 
            refine r_aload_n (Y := YX9_soon) dX9_soon_63 rfl ?_
            refine r_iV0I (Y := YX9_soon) mv_X9_185 dX9_soon_64 (c_X9_borne hm e3 e4) (by assumption) (fun σ64 z64 h64 => ?_)
            obtain ⟨e64, rfl⟩ := h64
            subst e64
            refine r_iload (Y := YX9_soon) dX9_soon_67 rfl ?_
            refine r_icmp_lt (Y := YX9_soon) (tgt := 75) dX9_soon_69 (by decide) (fun c69 => ?_) (fun c69 => ?_) 
            · refine r_aload_n (Y := YX9_soon) dX9_soon_75 rfl ?_
              refine r_iload_n (Y := YX9_soon) dX9_soon_76 rfl ?_
              refine r_iload_n (Y := YX9_soon) dX9_soon_77 rfl ?_
              refine r_iload_n (Y := YX9_soon) dX9_soon_78 rfl ?_
              refine r_iV3V (Y := YX9_soon) mv_X9_228 dX9_soon_79 (c_X9_sinAll hm e3 e4 (by omega) (by omega) (by omega) (by omega) (by omega) (by omega)) (by assumption) (fun σ79 h79 => ?_)
              obtain ⟨f2, f3⟩ := h79
              have e9 : WA (giveA s d r B) := WA_gvN e4 (by omega) (by omega) (by omega) 6 (Nat.le_refl 6)
              refine r_aload_n (Y := YX9_soon) dX9_soon_82 rfl ?_
              refine r_iV0V (Y := YX9_soon) mv_X9_145 dX9_soon_83 (c_X9_goWeek hm f2 e9) (by assumption) (fun σ83 h83 => ?_)
              obtain ⟨f4, f5⟩ := h83
              refine r_iinc (Y := YX9_soon) dX9_soon_86 rfl ?_
              refine r_goto (Y := YX9_soon) (tgt := 56) dX9_soon_89 (by decide) ?_
              rw [if_neg (by omega)] at e7
              exact R2.weak (by repeat first | exact trivial | refine And.intro rfl ?_) (ih (w + 1) _ _ (by omega) e7 f4 (WA_weekA e9) ((e5.tr f3).tr f5))
            · refine r_iload (Y := YX9_soon) dX9_soon_72 rfl ?_
              refine r_ireturn (Y := YX9_soon) dX9_soon_74 ?_
              rw [if_pos (by omega)] at e7
              exact ⟨e7, hM.fm e5, e5.fy⟩
        · refine r_bipush (Y := YX9_soon) dX9_soon_46 ?_
          refine r_ireturn (Y := YX9_soon) dX9_soon_48 ?_
          first
            | (exfalso; omega)
            | (unfold soonF; (repeat (first | rw [if_pos (by omega)] | rw [if_neg (by omega)])); exact ⟨rfl, hM, fun _ _ _ => rfl⟩)
  · refine r_iconst (Y := YX9_soon) dX9_soon_7 ?_
    refine r_ireturn (Y := YX9_soon) dX9_soon_8 ?_
    first
      | (exfalso; omega)
      | (unfold soonF; (repeat (first | rw [if_pos (by omega)] | rw [if_neg (by omega)])); exact ⟨rfl, hM, fun _ _ _ => rfl⟩)
