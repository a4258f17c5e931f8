/-! the component whole: shares, wigs, weeks to come -/
theorem sumN_add {P Q : Int → Int} : ∀ n : Nat, sumN (fun i => P i + Q i) n = sumN P n + sumN Q n
  | 0 => rfl
  | n + 1 => by
    show sumN (fun i => P i + Q i) n + (P n + Q n) = sumN P n + P n + (sumN Q n + Q n)
    rw [sumN_add n]
    omega
theorem sumN_ge {P : Int → Int} {m : Int} : ∀ n : Nat, (∀ i : Int, 0 ≤ i → i < n → 0 ≤ P i) → 0 ≤ m → m < n → P m ≤ sumN P n
  | 0, _, h1, h2 => by omega
  | n + 1, h, h1, h2 => by
    have hn := h n (by omega) (by omega)
    show P m ≤ sumN P n + P n
    by_cases e : m = n
    · subst e
      have := sumN_nn n (fun i a b => h i a (by omega))
      omega
    · have := sumN_ge n (fun i a b => h i a (by omega)) h1 (by omega)
      omega
theorem pow_len1 {st : Int → Int} {l : Lk} {r : List Lk} (hl : 0 ≤ l.1) : ∀ n : Nat, sumN (fun m => lenM m (l :: r) * st m) n = (if l.1 < n then l.2.1 * st l.1 else 0) + sumN (fun m => lenM m r * st m) n
  | 0 => by rw [if_neg (by omega)]; rfl
  | n + 1 => by
    show sumN (fun m => lenM m (l :: r) * st m) n + ((if l.1 = n then l.2.1 else 0) + lenM n r) * st n = _ + (sumN (fun m => lenM m r * st m) n + lenM n r * st n)
    rw [pow_len1 hl n, Int.add_mul]
    by_cases e : l.1 = n
    · rw [if_pos e, if_neg (by omega), if_pos (by omega), e]
      omega
    · rw [if_neg e, Int.zero_mul]
      by_cases e2 : l.1 < n
      · rw [if_pos e2, if_pos (by omega)]; omega
      · rw [if_neg e2, if_neg (by omega)]; omega
theorem pow_len {st : Int → Int} : ∀ {L : List Lk}, (∀ l ∈ L, okL l) → powL st L = sumN (fun m => lenM m L * st m) 6
  | [], _ => by
    show 0 = 0 + 0 * st 0 + 0 * st 1 + 0 * st 2 + 0 * st 3 + 0 * st 4 + 0 * st 5
    omega
  | l :: r, h => by
    have h1 := h l List.mem_cons_self
    rw [pow_len1 h1.1, if_pos (by have := h1.2.1; omega), ← pow_len (fun q hq => h q (List.mem_cons_of_mem _ hq))]
    rfl
def shO (A : AB) (m : Int) : Int := inA A m * aS A m
def shW (A : AB) : Int := sumN (shO A) 6
theorem sh_rows {A : AB} (h : WA A) : ∀ n : Nat, n ≤ 4 → sumN (fun m => inN A m n * aS A m) 6 = sumN (fun r => powL (aS A) (aR A r)) n
  | 0, _ => by
    show 0 + 0 * aS A 0 + 0 * aS A 1 + 0 * aS A 2 + 0 * aS A 3 + 0 * aS A 4 + 0 * aS A 5 = 0
    omega
  | n + 1, hn => by
    have e : (fun m => inN A m (n + 1) * aS A m) = fun m => inN A m n * aS A m + lenM m (aR A n) * aS A m := by
      funext m
      show (inN A m n + lenM m (aR A n)) * aS A m = _
      rw [Int.add_mul]
    rw [e, sumN_add, sh_rows h n (by omega), ← pow_len (h.2.2.2.1 n (by omega) (by omega)).2]
    rfl
theorem shW_eq {A : AB} (h : WA A) : shW A = sumN (fun r => powL (aS A) (aR A r)) 4 := sh_rows h 4 (Nat.le_refl 4)
theorem shO_nn {A : AB} (h : WA A) {m : Int} (h1 : 0 ≤ m) (h2 : m < 6) : 0 ≤ shO A m := Int.mul_nonneg (inN_bd h 4 (Nat.le_refl 4)).1 (h.2.1 m h1 h2).1
theorem shW_bd {A : AB} (h : WA A) : 0 ≤ shW A ∧ shW A ≤ 28512 := by
  have e := shW_eq h
  have p0 := powL_bd h.2.1 (h.2.2.2.1 0 (by omega) (by omega)).2
  have p1 := powL_bd h.2.1 (h.2.2.2.1 1 (by omega) (by omega)).2
  have p2 := powL_bd h.2.1 (h.2.2.2.1 2 (by omega) (by omega)).2
  have p3 := powL_bd h.2.1 (h.2.2.2.1 3 (by omega) (by omega)).2
  have l0 := (h.2.2.2.1 0 (by omega) (by omega)).1
  have l1 := (h.2.2.2.1 1 (by omega) (by omega)).1
  have l2 := (h.2.2.2.1 2 (by omega) (by omega)).1
  have l3 := (h.2.2.2.1 3 (by omega) (by omega)).1
  have e2 : sumN (fun r => powL (aS A) (aR A r)) 4 = 0 + powL (aS A) (aR A 0) + powL (aS A) (aR A 1) + powL (aS A) (aR A 2) + powL (aS A) (aR A 3) := rfl
  omega
theorem shO_le {A : AB} (h : WA A) {m : Int} (h1 : 0 ≤ m) (h2 : m < 6) : shO A m ≤ shW A := sumN_ge 6 (fun i a b => shO_nn h a b) h1 h2
def shareZ (A : AB) (m p : Int) : Int := if ¬ (0 ≤ m ∧ m ≤ 5) then -1000000000000000001 else if ¬ (0 ≤ p ∧ p ≤ 1) then -1000000000000000002 else if shW A = 0 then -1000000000000000003 else if p = 0 then shO A m / (Nat.gcd (shW A).toNat (shO A m).toNat : Nat) else shW A / (Nat.gcd (shW A).toNat (shO A m).toNat : Nat)
def shareF (G : GS) (m p : Int) : Int × GS := (shareZ G.1.1 m p, G)
def soonN (s d r need : Int) : Nat → Int → AB → Int
  | 0, _, _ => -6
  | k + 1, w, A => if need ≤ bearsA A 0 then w else soonN s d r need k (w + 1) (weekA (giveA s d r A))
def soonF (G : GS) (s d r n : Int) : Int × GS := if ¬ (0 ≤ r ∧ r ≤ 3) then (-1, G) else if ¬ (1 ≤ s ∧ s ≤ 63) then (-2, G) else if ¬ (1 ≤ d ∧ d ≤ 9) then (-2, G) else if ¬ (0 ≤ n ∧ n ≤ 9999) then (-2, G) else (soonN s d r n 31 0 G.1.1, G)
def cbG (G : GS) : List Int := cb (aH G.1.1) G.1.2.2 64
def canF (G : GS) (i : Int) : Int × GS := if i = -1 then (((cbG G).length : Int), G) else if 0 ≤ i ∧ i ≤ ((cbG G).length : Int) - 1 then ((cbG G).getD i.toNat 0, G) else (-6, G)
def sureF (G : GS) (w : Int) : Int × GS := if ¬ (0 ≤ w ∧ w ≤ 2) then (-2, G) else if (cbG G).length = 0 then (-5, G) else if w = 0 then (eachL 63 (cbG G), G) else if w = 1 then (ban 63 (bxo (someL 0 (cbG G)) (-1)), G) else ((askN (aH G.1.1) (cbG G) 63).1, G)
def yrN (q : Int × AB) : Nat → Int × AB
  | 0 => q
  | n + 1 => ((dwN (yrN q n) 6).1, weekA (dwN (yrN q n) 6).2)
def brs (q : Int × AB) : Nat → Int
  | 0 => 0
  | n + 1 => bearsA (yrN q (n + 1)).2 0
def lst (q : Int × AB) : Nat → Int
  | 0 => 2147483647
  | n + 1 => min (lst q n) (brs q (n + 1))
def lsc (q : Int × AB) (n : Nat) : Int := if n = 0 then 0 else lst q n
def yearF (G : GS) (s w p : Int) : Int × GS := if ¬ (0 ≤ s ∧ s ≤ 9999) then (-2, G) else if ¬ (1 ≤ w ∧ w ≤ 60) then (-2, G) else if ¬ (0 ≤ p ∧ p ≤ 1) then (-2, G) else if p = 0 then (brs (s, G.1.1) w.toNat, G) else (lst (s, G.1.1) w.toNat, G)
theorem yr_ok {q : Int × AB} (h1 : 0 ≤ q.1) (h2 : q.1 < 65537) (h3 : WA q.2) : ∀ n : Nat, (0 ≤ (yrN q n).1 ∧ (yrN q n).1 < 65537) ∧ WA (yrN q n).2
  | 0 => ⟨⟨h1, h2⟩, h3⟩
  | n + 1 => by
    have ih := yr_ok h1 h2 h3 n
    exact ⟨dwN_bd ih.1.1 ih.1.2 6, WA_weekA (WA_dwN ih.2 6 (Nat.le_refl 6))⟩
theorem brs_bd {q : Int × AB} (h1 : 0 ≤ q.1) (h2 : q.1 < 65537) (h3 : WA q.2) : ∀ n : Nat, 0 ≤ brs q n ∧ brs q n ≤ 400000
  | 0 => by show (0 : Int) ≤ 0 ∧ (0 : Int) ≤ 400000; omega
  | n + 1 => bears_bd (yr_ok h1 h2 h3 (n + 1)).2 (Int.le_refl 0)
theorem lst_bd {q : Int × AB} (h1 : 0 ≤ q.1) (h2 : q.1 < 65537) (h3 : WA q.2) : ∀ n : Nat, 0 ≤ lst q n ∧ lst q n ≤ 2147483647
  | 0 => by show (0 : Int) ≤ 2147483647 ∧ (2147483647 : Int) ≤ 2147483647; omega
  | n + 1 => by
    have i1 := lst_bd h1 h2 h3 n
    have i2 := brs_bd h1 h2 h3 (n + 1)
    unfold lst
    omega
theorem HX.wig {σ τ : ab_S} {x : Int} {G : GS} (h : HX σ x G) (hf : ∀ k i : Int, x ≤ k ∧ k ≤ x + 94 ∧ k ≠ x + 10 → τ k i = σ k i) (h0 : τ (x + 255 + 1) 0 = 0) (hz : ZA τ (x + 255)) : HX τ x G := by
  refine ⟨h.1.kept (fun k i b1 b2 b3 => hf k i (by omega)), h.2.1.kept (fun k i b1 b2 => hf k i (by omega)), fun i i1 i2 => ?_, h0, hz⟩
  rw [hf _ _ (by omega)]
  rcases h.2.2.1 i i1 i2 with q | ⟨H, q1, q2, q3⟩
  · exact Or.inl q
  · exact Or.inr ⟨H, q1, q2, q3.kept (fun k j b1 b2 _ => hf k j (by omega))⟩
set_option maxRecDepth 20000 in
theorem c_X8_share {σ : ab_S} {x : Int} {G : GS} (hx : kd_ x 8 8) (hX : HX σ x G) (hG : OKG G) {m : Int} (hm1 : -2147483648 ≤ m) (hm2 : m ≤ 2147483647) {p : Int} (hp1 : -2147483648 ≤ p) (hp2 : p ≤ 2147483647) : C2 YX8_share 4 σ [rf x, iv m, iv p] (PL fun σ' z => z = (shareF G m p).1 ∧ HX σ' x (shareF G m p).2 ∧ FX σ σ' x) := by
  obtain ⟨k1, k2, k3, k4, k5, k6, k7, k8⟩ := kd_hb hx
  obtain ⟨w1, w2, w3⟩ := kd_whole k2
  obtain ⟨a1, a2, a3, a4, a5, a6⟩ := kd_abbey w1
  have hA := hX.1.1
  have hW := hG.1.1.1
  have hWL := hG.1.1.2
  have hsb := shW_bd hW
  refine C2.of (by decide +kernel) (Nat.le_of_ble_eq_true rfl) ?_
  refine r_iload_n (Y := YX8_share) dX8_share_0 rfl ?_
  refine r_iconst (Y := YX8_share) dX8_share_1 ?_
  refine r_iconst (Y := YX8_share) dX8_share_2 ?_
  refine r_iS3I (Y := YX8_share) ms_X8_59 dX8_share_3 (c_isIn (by omega) (by omega) (by omega) (by omega) (by omega) (by omega)) (fun σ3 z3 h3 => ?_)
  obtain ⟨rfl, h3⟩ := h3
  refine r_if_ne (Y := YX8_share) (tgt := 13) dX8_share_6 (by decide) (fun c6 => ?_) (fun c6 => ?_) 
  · refine r_iload_n (Y := YX8_share) dX8_share_13 rfl ?_
    refine r_iconst (Y := YX8_share) dX8_share_14 ?_
    refine r_iconst (Y := YX8_share) dX8_share_15 ?_
    refine r_iS3I (Y := YX8_share) ms_X8_59 dX8_share_16 (c_isIn (by omega) (by omega) (by omega) (by omega) (by omega) (by omega)) (fun σ16 z16 h16 => ?_)
    obtain ⟨rfl, h16⟩ := h16
    refine r_if_ne (Y := YX8_share) (tgt := 26) dX8_share_19 (by decide) (fun c19 => ?_) (fun c19 => ?_) 
    · refine r_iconst (Y := YX8_share) dX8_share_26 ?_
      refine r_istore_n (Y := YX8_share) dX8_share_27 ?_
      refine r_iconst (Y := YX8_share) dX8_share_28 ?_
      refine r_istore (Y := YX8_share) dX8_share_29 ?_
      suffices hloop : ∀ (k n : Nat), n + k = 6 → R2 YX8_share 4 σ16 31 [some (rf x), some (iv m), some (iv p), some (iv (sumN (shO G.1.1) n)), some (iv n), none] [] (PL fun σ' z => z = (shareF G m p).1 ∧ HX σ' x (shareF G m p).2 ∧ FX σ16 σ' x) from
        R2.weak (by repeat first | exact trivial | refine And.intro rfl ?_) (hloop 6 0 rfl)
      intro k
      induction k with
      | zero =>
        intro n e1
        have e2 : n = 6 := by omega
        subst e2
        change R2 _ _ _ _ (_ :: _ :: _ :: some (iv (shW G.1.1)) :: _) _ _
        refine r_iload (Y := YX8_share) dX8_share_31 rfl ?_
        refine r_bipush (Y := YX8_share) dX8_share_33 ?_
        refine r_icmp_ge (Y := YX8_share) (tgt := 59) dX8_share_35 (by decide) (fun c35 => ?_) (fun c35 => absurd c35 (by omega)) 
        refine r_iload_n (Y := YX8_share) dX8_share_59 rfl ?_
        refine r_if_ne (Y := YX8_share) (tgt := 67) dX8_share_60 (by decide) (fun c60 => ?_) (fun c60 => ?_) 
        · refine r_aload_n (Y := YX8_share) dX8_share_67 rfl ?_
          refine r_getR (Y := YX8_share) (δz := 3) fl_X8_19 dX8_share_68 rfl rfl ?_
          refine r_getR (Y := YX8_share) (δz := 1) fl_X8_63 dX8_share_71 rfl rfl ?_
          refine r_iload_n (Y := YX8_share) dX8_share_74 rfl ?_
          refine r_iV1I (Y := YX8_share) mv_X8_138 dX8_share_75 (c_X0_powerOf w1 hA hW (by omega) (by omega)) (by assumption) (fun σ75 z75 h75 => ?_)
          obtain ⟨rfl, h75⟩ := h75
          change _ = shO G.1.1 _ at h75
          subst h75
          refine r_istore (Y := YX8_share) dX8_share_78 ?_
          have hol := shO_le hW (m := m) (by omega) (by omega)
          have hon := shO_nn hW (m := m) (by omega) (by omega)
          obtain ⟨u0, hu0⟩ : ∃ u0 : Nat, shW G.1.1 = u0 := ⟨(shW G.1.1).toNat, by omega⟩
          obtain ⟨l0, hl0⟩ : ∃ l0 : Nat, shO G.1.1 m = l0 := ⟨(shO G.1.1 m).toNat, by omega⟩
          rw [hu0, hl0]
          have hgp : 0 < Nat.gcd u0 l0 := Nat.gcd_pos_of_pos_left _ (by omega)
          have hgl : Nat.gcd u0 l0 ≤ u0 := Nat.gcd_le_left _ (by omega)
          refine r_iload_n (Y := YX8_share) dX8_share_80 rfl ?_
          refine r_iload (Y := YX8_share) dX8_share_81 rfl ?_
          refine r_iS2I (Y := YX8_share) ms_X8_143 dX8_share_83 (c_X8_commonDivisor _ u0 l0 (by omega) (by omega) (by omega)) (fun σ83 z83 h83 => ?_)
          obtain ⟨rfl, rfl⟩ := h83
          refine r_istore (Y := YX8_share) dX8_share_86 ?_
          refine r_iload_n (Y := YX8_share) dX8_share_88 rfl ?_
          refine r_if_ne (Y := YX8_share) (tgt := 97) dX8_share_89 (by decide) (fun c89 => ?_) (fun c89 => ?_) 
          · refine r_iload_n (Y := YX8_share) dX8_share_97 rfl ?_
            refine r_iload (Y := YX8_share) dX8_share_98 rfl ?_
            refine r_idiv (Y := YX8_share) dX8_share_100 ?_
            have hdv : ∀ q : Nat, (0 : Int) ≤ (q : Int) / (Nat.gcd u0 l0 : Nat) ∧ (q : Int) / (Nat.gcd u0 l0 : Nat) ≤ q := fun q => ⟨Int.ediv_nonneg (by omega) (by omega), Int.ediv_le_self _ (by omega)⟩
            have hd1 := hdv u0
            have hd2 := hdv l0
            refine r_i2l (Y := YX8_share) dX8_share_101 ?_
            refine r_lreturn (Y := YX8_share) dX8_share_102 ?_
            refine ⟨?_, hX, fun _ _ _ => rfl⟩
            show _ = shareZ G.1.1 m p
            unfold shareZ
            (repeat (first | rw [if_pos (by omega)] | rw [if_neg (by omega)]))
            rw [hu0, hl0, Int.toNat_natCast, Int.toNat_natCast]
          · refine r_iload (Y := YX8_share) dX8_share_92 rfl ?_
            refine r_goto (Y := YX8_share) (tgt := 98) dX8_share_94 (by decide) ?_
            refine r_iload (Y := YX8_share) dX8_share_98 rfl ?_
            refine r_idiv (Y := YX8_share) dX8_share_100 ?_
            have hdv : ∀ q : Nat, (0 : Int) ≤ (q : Int) / (Nat.gcd u0 l0 : Nat) ∧ (q : Int) / (Nat.gcd u0 l0 : Nat) ≤ q := fun q => ⟨Int.ediv_nonneg (by omega) (by omega), Int.ediv_le_self _ (by omega)⟩
            have hd1 := hdv u0
            have hd2 := hdv l0
            refine r_i2l (Y := YX8_share) dX8_share_101 ?_
            refine r_lreturn (Y := YX8_share) dX8_share_102 ?_
            refine ⟨?_, hX, fun _ _ _ => rfl⟩
            show _ = shareZ G.1.1 m p
            unfold shareZ
            (repeat (first | rw [if_pos (by omega)] | rw [if_neg (by omega)]))
            rw [hu0, hl0, Int.toNat_natCast, Int.toNat_natCast]
        · refine r_ldc2 (Y := YX8_share) (z := -1000000000000000003) wc_X8_141 dX8_share_63 (by decide) ?_
          refine r_lreturn (Y := YX8_share) dX8_share_66 ?_
          refine ⟨?_, hX, fun _ _ _ => rfl⟩
          show _ = shareZ G.1.1 m p
          unfold shareZ
          (repeat (first | rw [if_pos (by omega)] | rw [if_neg (by omega)]))
      | succ k ih =>
        intro n e1
        refine r_iload (Y := YX8_share) dX8_share_31 rfl ?_
        refine r_bipush (Y := YX8_share) dX8_share_33 ?_
        refine r_icmp_ge (Y := YX8_share) (tgt := 59) dX8_share_35 (by decide) (fun c35 => absurd c35 (by omega)) (fun c35 => ?_) 
        refine r_iload_n (Y := YX8_share) dX8_share_38 rfl ?_
        refine r_aload_n (Y := YX8_share) dX8_share_39 rfl ?_
        refine r_getR (Y := YX8_share) (δz := 3) fl_X8_19 dX8_share_40 rfl rfl ?_
        refine r_getR (Y := YX8_share) (δz := 1) fl_X8_63 dX8_share_43 rfl rfl ?_
        refine r_iload (Y := YX8_share) dX8_share_46 rfl ?_
        refine r_iV1I (Y := YX8_share) mv_X8_138 dX8_share_48 (c_X0_powerOf w1 hA hW (by omega) (by omega)) (by assumption) (fun σ48 z48 h48 => ?_)
        obtain ⟨rfl, h48⟩ := h48
        change _ = shO G.1.1 _ at h48
        subst h48
        refine r_iadd (Y := YX8_share) dX8_share_51 ?_
        refine r_istore_n (Y := YX8_share) dX8_share_52 ?_
        refine r_iinc (Y := YX8_share) dX8_share_53 rfl ?_
        refine r_goto (Y := YX8_share) (tgt := 31) dX8_share_56 (by decide) ?_
        exact R2.weak (by repeat first | exact trivial | refine And.intro rfl ?_) (ih (n + 1) (by omega))
    · refine r_ldc2 (Y := YX8_share) (z := -1000000000000000002) wc_X8_136 dX8_share_22 (by decide) ?_
      refine r_lreturn (Y := YX8_share) dX8_share_25 ?_
      refine ⟨?_, hX, fun _ _ _ => rfl⟩
      show _ = shareZ G.1.1 m p
      unfold shareZ
      (repeat (first | rw [if_pos (by omega)] | rw [if_neg (by omega)]))
  · refine r_ldc2 (Y := YX8_share) (z := -1000000000000000001) wc_X8_134 dX8_share_9 (by decide) ?_
    refine r_lreturn (Y := YX8_share) dX8_share_12 ?_
    refine ⟨?_, hX, fun _ _ _ => rfl⟩
    show _ = shareZ G.1.1 m p
    unfold shareZ
    (repeat (first | rw [if_pos (by omega)] | rw [if_neg (by omega)]))
set_option maxRecDepth 20000 in
theorem c_X8_canBe {σ : ab_S} {x : Int} {G : GS} (hx : kd_ x 8 8) (hX : HX σ x G) (hG : OKG G) {i : Int} (hi1 : -2147483648 ≤ i) (hi2 : i ≤ 2147483647) : C2 YX8_canBe 2 σ [rf x, iv i] (PI fun σ' z => z = (canF G i).1 ∧ HX σ' x (canF G i).2 ∧ FX σ σ' x) := by
  obtain ⟨k1, k2, k3, k4, k5, k6, k7, k8⟩ := kd_hb hx
  obtain ⟨w1, w2, w3⟩ := kd_whole k2
  obtain ⟨a1, a2, a3, a4, a5, a6⟩ := kd_abbey w1
  have hA := hX.1.1
  have hW := hG.1.1.1
  have hWL := hG.1.1.2
  refine C2.of (by decide +kernel) (Nat.le_of_ble_eq_true rfl) ?_
  refine r_aload_n (Y := YX8_canBe) dX8_canBe_0 rfl ?_
  refine r_getR (Y := YX8_canBe) (δz := 255) fl_X8_55 dX8_canBe_1 rfl rfl ?_
  refine r_aload_n (Y := YX8_canBe) dX8_canBe_4 rfl ?_
  refine r_getR (Y := YX8_canBe) (δz := 3) fl_X8_19 dX8_canBe_5 rfl rfl ?_
  refine r_getR (Y := YX8_canBe) (δz := 1) fl_X8_63 dX8_canBe_8 rfl rfl ?_
  refine r_getR (Y := YX8_canBe) (δz := 1) fl_X8_66 dX8_canBe_11 rfl rfl ?_
  refine r_aload_n (Y := YX8_canBe) dX8_canBe_14 rfl ?_
  refine r_getR (Y := YX8_canBe) (δz := 3) fl_X8_19 dX8_canBe_15 rfl rfl ?_
  refine r_getR (Y := YX8_canBe) (δz := 27) fl_X8_188 dX8_canBe_18 rfl rfl ?_
  refine r_iV2V (Y := YX8_canBe) mv_X8_191 dX8_canBe_21 (c_X7_find k8 a1 w3 hW.1 hA.1 hX.1.2.2 hWL.2 hG.1.2.2 hX.2.2.2.1 (by omega) (by omega)) (by assumption) (fun σ21 h21 => ?_)
  obtain ⟨g1, g2, g3⟩ := h21
  change FT _ _ (cbG G) at g2
  have hcl := cb_len (aH G.1.1) G.1.2.2 64
  change (cbG G).length ≤ 64 ∧ ∀ v ∈ cbG G, _ at hcl
  have hcl1 := hcl.1
  have hz0 : ZA σ21 (x + 255) := fun i i1 i2 => by rw [g3 _ _ (by omega) (by omega) (by omega)]; exact hX.2.2.2.2 i i1 i2
  have hX2 : HX σ21 x G := hX.wig (fun k i b => g3 k i (by omega) (by omega) (by omega)) ((g1 0 (by omega) (by omega)).trans (wt_zero _)) hz0
  have hF2 : FX _ σ21 x := fun k i b => g3 k i (by omega) (by omega) (by omega)
  refine r_iload_n (Y := YX8_canBe) dX8_canBe_24 rfl ?_
  refine r_iconst (Y := YX8_canBe) dX8_canBe_25 ?_
  refine r_icmp_ne (Y := YX8_canBe) (tgt := 37) dX8_canBe_26 (by decide) (fun c26 => ?_) (fun c26 => ?_) 
  · refine r_iload_n (Y := YX8_canBe) dX8_canBe_37 rfl ?_
    refine r_iconst (Y := YX8_canBe) dX8_canBe_38 ?_
    refine r_aload_n (Y := YX8_canBe) dX8_canBe_39 rfl ?_
    refine r_getR (Y := YX8_canBe) (δz := 255) fl_X8_55 dX8_canBe_40 rfl rfl ?_
    refine r_getV (Y := YX8_canBe) (v := ((cbG G).length : Int)) (jz := 3) fl_X8_195 dX8_canBe_43 (g2.1) ?_
    refine r_iconst (Y := YX8_canBe) dX8_canBe_46 ?_
    refine r_isub (Y := YX8_canBe) dX8_canBe_47 ?_
    refine r_iS3I (Y := YX8_canBe) ms_X8_59 dX8_canBe_48 (c_isIn (by omega) (by omega) (by omega) (by omega) (by omega) (by omega)) (fun σ48 z48 h48 => ?_)
    obtain ⟨rfl, h48⟩ := h48
    refine r_if_eq (Y := YX8_canBe) (tgt := 66) dX8_canBe_51 (by decide) (fun c51 => ?_) (fun c51 => ?_) 
    · refine r_bipush (Y := YX8_canBe) dX8_canBe_66 ?_
      refine r_ireturn (Y := YX8_canBe) dX8_canBe_68 ?_
      unfold canF
      (repeat (first | rw [if_pos (by omega)] | rw [if_neg (by omega)]))
      first
        | exact ⟨rfl, hX2, hF2⟩
        | exact ⟨by show cv = (cbG G).getD i.toNat 0; rw [List.getD_eq_getElem?_getD, hcv]; rfl, hX2, hF2⟩
    · obtain ⟨j1, j2, j3⟩ := kd_wigs k8
      obtain ⟨cv, hcv, _⟩ := getI_some (L := cbG G) (i := i.toNat) (by omega)
      have hci := g2.2 i.toNat cv hcv
      rw [show ((i.toNat : Nat) : Int) = i by omega] at hci
      refine r_aload_n (Y := YX8_canBe) dX8_canBe_54 rfl ?_
      refine r_getR (Y := YX8_canBe) (δz := 255) fl_X8_55 dX8_canBe_55 rfl rfl ?_
      refine r_getR (Y := YX8_canBe) (δz := 3) fl_X8_196 dX8_canBe_58 rfl rfl ?_
      refine r_iload_n (Y := YX8_canBe) dX8_canBe_61 rfl ?_
      refine r_iaV (Y := YX8_canBe) (v := cv) dX8_canBe_62 (hci) ?_
      refine r_goto (Y := YX8_canBe) (tgt := 68) dX8_canBe_63 (by decide) ?_
      refine r_ireturn (Y := YX8_canBe) dX8_canBe_68 ?_
      unfold canF
      (repeat (first | rw [if_pos (by omega)] | rw [if_neg (by omega)]))
      first
        | exact ⟨rfl, hX2, hF2⟩
        | exact ⟨by show cv = (cbG G).getD i.toNat 0; rw [List.getD_eq_getElem?_getD, hcv]; rfl, hX2, hF2⟩
  · refine r_aload_n (Y := YX8_canBe) dX8_canBe_29 rfl ?_
    refine r_getR (Y := YX8_canBe) (δz := 255) fl_X8_55 dX8_canBe_30 rfl rfl ?_
    refine r_getV (Y := YX8_canBe) (v := ((cbG G).length : Int)) (jz := 3) fl_X8_195 dX8_canBe_33 (g2.1) ?_
    refine r_ireturn (Y := YX8_canBe) dX8_canBe_36 ?_
    unfold canF
    (repeat (first | rw [if_pos (by omega)] | rw [if_neg (by omega)]))
    exact ⟨rfl, hX2, hF2⟩
set_option maxRecDepth 20000 in
theorem c_X8_sure {σ : ab_S} {x : Int} {G : GS} (hx : kd_ x 8 8) (hX : HX σ x G) (hG : OKG G) {w : Int} (hw1 : -2147483648 ≤ w) (hw2 : w ≤ 2147483647) : C2 YX8_sure 4 σ [rf x, iv w] (PI fun σ' z => z = (sureF G w).1 ∧ HX σ' x (sureF G w).2 ∧ FX σ σ' x) := by
  obtain ⟨k1, k2, k3, k4, k5, k6, k7, k8⟩ := kd_hb hx
  obtain ⟨w1, w2, w3⟩ := kd_whole k2
  obtain ⟨a1, a2, a3, a4, a5, a6⟩ := kd_abbey w1
  have hA := hX.1.1
  have hW := hG.1.1.1
  have hWL := hG.1.1.2
  refine C2.of (by decide +kernel) (Nat.le_of_ble_eq_true rfl) ?_
  refine r_iload_n (Y := YX8_sure) dX8_sure_0 rfl ?_
  refine r_iconst (Y := YX8_sure) dX8_sure_1 ?_
  refine r_iconst (Y := YX8_sure) dX8_sure_2 ?_
  refine r_iS3I (Y := YX8_sure) ms_X8_59 dX8_sure_3 (c_isIn (by omega) (by omega) (by omega) (by omega) (by omega) (by omega)) (fun σ3 z3 h3 => ?_)
  obtain ⟨rfl, h3⟩ := h3
  refine r_if_ne (Y := YX8_sure) (tgt := 12) dX8_sure_6 (by decide) (fun c6 => ?_) (fun c6 => ?_) 
  · refine r_aload_n (Y := YX8_sure) dX8_sure_12 rfl ?_
    refine r_getR (Y := YX8_sure) (δz := 255) fl_X8_55 dX8_sure_13 rfl rfl ?_
    refine r_aload_n (Y := YX8_sure) dX8_sure_16 rfl ?_
    refine r_getR (Y := YX8_sure) (δz := 3) fl_X8_19 dX8_sure_17 rfl rfl ?_
    refine r_getR (Y := YX8_sure) (δz := 1) fl_X8_63 dX8_sure_20 rfl rfl ?_
    refine r_getR (Y := YX8_sure) (δz := 1) fl_X8_66 dX8_sure_23 rfl rfl ?_
    refine r_aload_n (Y := YX8_sure) dX8_sure_26 rfl ?_
    refine r_getR (Y := YX8_sure) (δz := 3) fl_X8_19 dX8_sure_27 rfl rfl ?_
    refine r_getR (Y := YX8_sure) (δz := 27) fl_X8_188 dX8_sure_30 rfl rfl ?_
    refine r_iV2V (Y := YX8_sure) mv_X8_191 dX8_sure_33 (c_X7_find k8 a1 w3 hW.1 hA.1 hX.1.2.2 hWL.2 hG.1.2.2 hX.2.2.2.1 (by omega) (by omega)) (by assumption) (fun σ33 h33 => ?_)
    obtain ⟨g1, g2, g3⟩ := h33
    change FT _ _ (cbG G) at g2
    have hcl := cb_len (aH G.1.1) G.1.2.2 64
    change (cbG G).length ≤ 64 ∧ ∀ v ∈ cbG G, _ at hcl
    have hcl1 := hcl.1
    have hz0 : ZA σ33 (x + 255) := fun i i1 i2 => by rw [g3 _ _ (by omega) (by omega) (by omega)]; exact hX.2.2.2.2 i i1 i2
    have hX2 : HX σ33 x G := hX.wig (fun k i b => g3 k i (by omega) (by omega) (by omega)) ((g1 0 (by omega) (by omega)).trans (wt_zero _)) hz0
    have hF2 : FX _ σ33 x := fun k i b => g3 k i (by omega) (by omega) (by omega)
    refine r_aload_n (Y := YX8_sure) dX8_sure_36 rfl ?_
    refine r_getR (Y := YX8_sure) (δz := 255) fl_X8_55 dX8_sure_37 rfl rfl ?_
    refine r_getV (Y := YX8_sure) (v := ((cbG G).length : Int)) (jz := 3) fl_X8_195 dX8_sure_40 (g2.1) ?_
    refine r_if_ne (Y := YX8_sure) (tgt := 49) dX8_sure_43 (by decide) (fun c43 => ?_) (fun c43 => ?_) 
    · refine r_iload_n (Y := YX8_sure) dX8_sure_49 rfl ?_
      rcases (show w = 0 ∨ w = 1 ∨ w = 2 by omega) with e | e | e
      · subst e
        refine r_lookup (Y := YX8_sure) (off := 26) (tgt := 76) dX8_sure_50 (by decide) (by decide) (by decide) ?_
        refine r_aload_n (Y := YX8_sure) dX8_sure_76 rfl ?_
        refine r_getR (Y := YX8_sure) (δz := 255) fl_X8_55 dX8_sure_77 rfl rfl ?_
        refine r_iV0I (Y := YX8_sure) mv_X8_199 dX8_sure_80 (c_X7_inEach k8 g2 hcl1) (by assumption) (fun σ80 z80 h80 => ?_)
        obtain ⟨rfl, rfl⟩ := h80
        refine r_ireturn (Y := YX8_sure) dX8_sure_83 ?_
        unfold sureF
        (repeat (first | rw [if_pos (by omega)] | rw [if_neg (by omega)]))
        exact ⟨rfl, hX2, hF2⟩
      · subst e
        refine r_lookup (Y := YX8_sure) (off := 34) (tgt := 84) dX8_sure_50 (by decide) (by decide) (by decide) ?_
        refine r_aload_n (Y := YX8_sure) dX8_sure_84 rfl ?_
        refine r_getR (Y := YX8_sure) (δz := 255) fl_X8_55 dX8_sure_85 rfl rfl ?_
        refine r_iV0I (Y := YX8_sure) mv_X8_202 dX8_sure_88 (c_X7_inNone k8 g2 hcl1) (by assumption) (fun σ88 z88 h88 => ?_)
        obtain ⟨rfl, rfl⟩ := h88
        refine r_ireturn (Y := YX8_sure) dX8_sure_91 ?_
        unfold sureF
        (repeat (first | rw [if_pos (by omega)] | rw [if_neg (by omega)]))
        exact ⟨rfl, hX2, hF2⟩
      · subst e
        refine r_lookup (Y := YX8_sure) (off := 42) (tgt := 92) dX8_sure_50 (by decide) (by decide) (by decide) ?_
        refine r_aload_n (Y := YX8_sure) dX8_sure_92 rfl ?_
        refine r_getR (Y := YX8_sure) (δz := 255) fl_X8_55 dX8_sure_93 rfl rfl ?_
        refine r_iV0I (Y := YX8_sure) mv_X8_205 dX8_sure_96 (c_X7_bestToAsk k8 hW.1 g1 g2 hz0 hcl1 (fun v hv => hcl.2 v hv)) (by assumption) (fun σ96 z96 h96 => ?_)
        obtain ⟨rfl, z1, z2⟩ := h96
        refine r_ireturn (Y := YX8_sure) dX8_sure_99 ?_
        unfold sureF
        (repeat (first | rw [if_pos (by omega)] | rw [if_neg (by omega)]))
        exact ⟨rfl, hX2.wig (fun k i b => z2 k i (by omega)) (by rw [z2 _ _ (by omega)]; exact hX2.2.2.2.1) z1, fun k i b => by rw [z2 k i (by omega)]; exact hF2 k i b⟩
    · refine r_bipush (Y := YX8_sure) dX8_sure_46 ?_
      refine r_ireturn (Y := YX8_sure) dX8_sure_48 ?_
      unfold sureF
      (repeat (first | rw [if_pos (by omega)] | rw [if_neg (by omega)]))
      exact ⟨rfl, hX2, hF2⟩
  · refine r_bipush (Y := YX8_sure) dX8_sure_9 ?_
    refine r_ireturn (Y := YX8_sure) dX8_sure_11 ?_
    unfold sureF
    (repeat (first | rw [if_pos (by omega)] | rw [if_neg (by omega)]))
    exact ⟨rfl, hX, fun _ _ _ => rfl⟩
set_option maxRecDepth 20000 in
theorem c_X8_soon {σ : ab_S} {x : Int} {G : GS} (hx : kd_ x 8 8) (hX : HX σ x G) (hG : OKG G) {s : Int} (hs1 : -2147483648 ≤ s) (hs2 : s ≤ 2147483647) {d : Int} (hd1 : -2147483648 ≤ d) (hd2 : d ≤ 2147483647) {r : Int} (hr1 : -2147483648 ≤ r) (hr2 : r ≤ 2147483647) {n : Int} (hn1 : -2147483648 ≤ n) (hn2 : n ≤ 2147483647) : C2 YX8_soon 5 σ [rf x, iv s, iv d, iv r, iv n] (PI fun σ' z => z = (soonF G s d r n).1 ∧ HX σ' x (soonF G s d r n).2 ∧ FX σ σ' x) := by
  obtain ⟨k1, k2, k3, k4, k5, k6, k7, k8⟩ := kd_hb hx
  obtain ⟨w1, w2, w3⟩ := kd_whole k2
  obtain ⟨a1, a2, a3, a4, a5, a6⟩ := kd_abbey w1
  have hA := hX.1.1
  have hW := hG.1.1.1
  have hWL := hG.1.1.2
  refine C2.of (by decide +kernel) (Nat.le_of_ble_eq_true rfl) ?_
  refine r_iload_n (Y := YX8_soon) dX8_soon_0 rfl ?_
  refine r_iconst (Y := YX8_soon) dX8_soon_1 ?_
  refine r_iconst (Y := YX8_soon) dX8_soon_2 ?_
  refine r_iS3I (Y := YX8_soon) ms_X8_59 dX8_soon_3 (c_isIn (by omega) (by omega) (by omega) (by omega) (by omega) (by omega)) (fun σ3 z3 h3 => ?_)
  obtain ⟨rfl, h3⟩ := h3
  refine r_if_ne (Y := YX8_soon) (tgt := 11) dX8_soon_6 (by decide) (fun c6 => ?_) (fun c6 => ?_) 
  · refine r_iload_n (Y := YX8_soon) dX8_soon_11 rfl ?_
    refine r_iconst (Y := YX8_soon) dX8_soon_12 ?_
    refine r_bipush (Y := YX8_soon) dX8_soon_13 ?_
    refine r_iS3I (Y := YX8_soon) ms_X8_59 dX8_soon_15 (c_isIn (by omega) (by omega) (by omega) (by omega) (by omega) (by omega)) (fun σ15 z15 h15 => ?_)
    obtain ⟨rfl, h15⟩ := h15
    refine r_if_eq (Y := YX8_soon) (tgt := 43) dX8_soon_18 (by decide) (fun c18 => ?_) (fun c18 => ?_) 
    · refine r_bipush (Y := YX8_soon) dX8_soon_43 ?_
      refine r_ireturn (Y := YX8_soon) dX8_soon_45 ?_
      unfold soonF
      (repeat (first | rw [if_pos (by omega)] | rw [if_neg (by omega)]))
      exact ⟨rfl, hX, fun _ _ _ => rfl⟩
    · refine r_iload_n (Y := YX8_soon) dX8_soon_21 rfl ?_
      refine r_iconst (Y := YX8_soon) dX8_soon_22 ?_
      refine r_bipush (Y := YX8_soon) dX8_soon_23 ?_
      refine r_iS3I (Y := YX8_soon) ms_X8_59 dX8_soon_25 (c_isIn (by omega) (by omega) (by omega) (by omega) (by omega) (by omega)) (fun σ25 z25 h25 => ?_)
      obtain ⟨rfl, h25⟩ := h25
      refine r_if_eq (Y := YX8_soon) (tgt := 43) dX8_soon_28 (by decide) (fun c28 => ?_) (fun c28 => ?_) 
      · refine r_bipush (Y := YX8_soon) dX8_soon_43 ?_
        refine r_ireturn (Y := YX8_soon) dX8_soon_45 ?_
        unfold soonF
        (repeat (first | rw [if_pos (by omega)] | rw [if_neg (by omega)]))
        exact ⟨rfl, hX, fun _ _ _ => rfl⟩
      · refine r_iload (Y := YX8_soon) dX8_soon_31 rfl ?_
        refine r_iconst (Y := YX8_soon) dX8_soon_33 ?_
        refine r_sipush (Y := YX8_soon) dX8_soon_34 ?_
        refine r_iS3I (Y := YX8_soon) ms_X8_59 dX8_soon_37 (c_isIn (by omega) (by omega) (by omega) (by omega) (by omega) (by omega)) (fun σ37 z37 h37 => ?_)
        obtain ⟨rfl, h37⟩ := h37
        refine r_if_ne (Y := YX8_soon) (tgt := 46) dX8_soon_40 (by decide) (fun c40 => ?_) (fun c40 => ?_) 
        · refine r_aload_n (Y := YX8_soon) dX8_soon_46 rfl ?_
          refine r_getR (Y := YX8_soon) (δz := 95) fl_X8_34 dX8_soon_47 rfl rfl ?_
          refine r_aload_n (Y := YX8_soon) dX8_soon_50 rfl ?_
          refine r_getR (Y := YX8_soon) (δz := 3) fl_X8_19 dX8_soon_51 rfl rfl ?_
          refine r_getR (Y := YX8_soon) (δz := 1) fl_X8_63 dX8_soon_54 rfl rfl ?_
          refine r_iV1V (Y := YX8_soon) mv_X8_101 dX8_soon_57 (c_X0_become k5 w1 hA hW (by omega)) (by assumption) (fun σ57 h57 => ?_)
          obtain ⟨b1, b2⟩ := h57
          refine r_iconst (Y := YX8_soon) dX8_soon_60 ?_
          refine r_istore (Y := YX8_soon) dX8_soon_61 ?_
          suffices hloop : ∀ (k w : Nat) (B : AB) (τ : ab_S), w + k = 31 → soonN s d r n k w B = soonN s d r n 31 0 G.1.1 → RA τ (x + 95) B → WA B → (∀ k i : Int, k < x + 95 ∨ x + 117 < k → τ k i = σ37 k i) → R2 YX8_soon 5 τ 63 [some (rf x), some (iv s), some (iv d), some (iv r), some (iv n), some (iv w)] [] (PI fun σ' z => z = (soonF G s d r n).1 ∧ HX σ' x (soonF G s d r n).2 ∧ FX σ37 σ' x) from
            R2.weak (by repeat first | exact trivial | refine And.intro rfl ?_) (hloop 31 0 G.1.1 σ57 rfl rfl b1 hW (fun k i b => b2 k i (by omega)))
          have hsf : soonF G s d r n = (soonN s d r n 31 0 G.1.1, G) := by unfold soonF; (repeat (first | rw [if_pos (by omega)] | rw [if_neg (by omega)]))
          rw [hsf]
          intro k
          induction k with
          | zero =>
            intro w B τ e1 e2 e3 e4 e5
            have e6 : w = 31 := by omega
            subst e6
            refine r_iload (Y := YX8_soon) dX8_soon_63 rfl ?_
            refine r_bipush (Y := YX8_soon) dX8_soon_65 ?_
            refine r_icmp_gt (Y := YX8_soon) (tgt := 109) dX8_soon_67 (by decide) (fun c67 => ?_) (fun c67 => absurd c67 (by omega)) 
            refine r_bipush (Y := YX8_soon) dX8_soon_109 ?_
            refine r_ireturn (Y := YX8_soon) dX8_soon_111 ?_
            exact ⟨e2, hX.kept (fun q i b => e5 q i (by omega)), fun q i b => e5 q i (by omega)⟩
          | succ k ih =>
            intro w B τ e1 e2 e3 e4 e5
            have hbb := bears_bd e4 (Int.le_refl 0)
            have e7 : (if n ≤ bearsA B 0 then (w : Int) else soonN s d r n k (w + 1) (weekA (giveA s d r B))) = soonN s d r n 31 0 G.1.1 := e2
            refine r_iload (Y := YX8_soon) dX8_soon_63 rfl ?_
            refine r_bipush (Y := YX8_soon) dX8_soon_65 ?_
            refine r_icmp_gt (Y := YX8_soon) (tgt := 109) dX8_soon_67 (by decide) (fun c67 => absurd c67 (by omega)) (fun c67 => ?_) 
            refine r_aload_n (Y := YX8_soon) dX8_soon_70 rfl ?_
            refine r_getR (Y := YX8_soon) (δz := 95) fl_X8_34 dX8_soon_71 rfl rfl ?_
            refine r_iconst (Y := YX8_soon) dX8_soon_74 ?_
            refine r_iV1I (Y := YX8_soon) mv_X8_127 dX8_soon_75 (c_X0_bearsLess k5 e3 e4 (by omega) (by omega)) (by assumption) (fun σ75 z75 h75 => ?_)
            obtain ⟨rfl, f1⟩ := h75
            have e8 : RA σ75 (x + 95) B := e3.kept (fun q i b1 b2 b3 => f1 q i (by omega))
            refine r_iload (Y := YX8_soon) dX8_soon_78 rfl ?_
            refine r_icmp_lt (Y := YX8_soon) (tgt := 86) dX8_soon_80 (by decide) (fun c80 => ?_) (fun c80 => ?_) 
            · refine r_aload_n (Y := YX8_soon) dX8_soon_86 rfl ?_
              refine r_getR (Y := YX8_soon) (δz := 95) fl_X8_34 dX8_soon_87 rfl rfl ?_
              refine r_iload_n (Y := YX8_soon) dX8_soon_90 rfl ?_
              refine r_iload_n (Y := YX8_soon) dX8_soon_91 rfl ?_
              refine r_iload_n (Y := YX8_soon) dX8_soon_92 rfl ?_
              refine r_iV3V (Y := YX8_soon) mv_X8_181 dX8_soon_93 (c_X0_giveAll k5 e8 e4 (by omega) (by omega) (by omega) (by omega) (by omega) (by omega)) (by assumption) (fun σ93 h93 => ?_)
              obtain ⟨f2, f3⟩ := h93
              have e9 : WA (giveA s d r B) := WA_gvN e4 (by omega) (by omega) (by omega) 6 (Nat.le_refl 6)
              refine r_aload_n (Y := YX8_soon) dX8_soon_96 rfl ?_
              refine r_getR (Y := YX8_soon) (δz := 95) fl_X8_34 dX8_soon_97 rfl rfl ?_
              refine r_iV0V (Y := YX8_soon) mv_X8_185 dX8_soon_100 (c_X0_passWeek k5 f2 e9) (by assumption) (fun σ100 h100 => ?_)
              obtain ⟨f4, f5⟩ := h100
              refine r_iinc (Y := YX8_soon) dX8_soon_103 rfl ?_
              refine r_goto (Y := YX8_soon) (tgt := 63) dX8_soon_106 (by decide) ?_
              rw [if_neg (by omega)] at e7
              exact R2.weak (by repeat first | exact trivial | refine And.intro rfl ?_) (ih (w + 1) _ σ100 (by omega) e7 f4 (WA_weekA e9) (fun q i b => by rw [f5 q i (by omega), f3 q i (by omega), f1 q i (by omega)]; exact e5 q i b))
            · refine r_iload (Y := YX8_soon) dX8_soon_83 rfl ?_
              refine r_ireturn (Y := YX8_soon) dX8_soon_85 ?_
              rw [if_pos (by omega)] at e7
              exact ⟨e7, hX.kept (fun q i b => by rw [f1 q i (by omega)]; exact e5 q i (by omega)), fun q i b => by rw [f1 q i (by omega)]; exact e5 q i (by omega)⟩
        · refine r_bipush (Y := YX8_soon) dX8_soon_43 ?_
          refine r_ireturn (Y := YX8_soon) dX8_soon_45 ?_
          unfold soonF
          (repeat (first | rw [if_pos (by omega)] | rw [if_neg (by omega)]))
          exact ⟨rfl, hX, fun _ _ _ => rfl⟩
  · refine r_iconst (Y := YX8_soon) dX8_soon_9 ?_
    refine r_ireturn (Y := YX8_soon) dX8_soon_10 ?_
    unfold soonF
    (repeat (first | rw [if_pos (by omega)] | rw [if_neg (by omega)]))
    exact ⟨rfl, hX, fun _ _ _ => rfl⟩
set_option maxRecDepth 20000 in
theorem c_X8_year {σ : ab_S} {x : Int} {G : GS} (hx : kd_ x 8 8) (hX : HX σ x G) (hG : OKG G) {s : Int} (hs1 : -2147483648 ≤ s) (hs2 : s ≤ 2147483647) {w : Int} (hw1 : -2147483648 ≤ w) (hw2 : w ≤ 2147483647) {p : Int} (hp1 : -2147483648 ≤ p) (hp2 : p ≤ 2147483647) : C2 YX8_year 5 σ [rf x, iv s, iv w, iv p] (PI fun σ' z => z = (yearF G s w p).1 ∧ HX σ' x (yearF G s w p).2 ∧ FX σ σ' x) := by
  obtain ⟨k1, k2, k3, k4, k5, k6, k7, k8⟩ := kd_hb hx
  obtain ⟨w1, w2, w3⟩ := kd_whole k2
  obtain ⟨a1, a2, a3, a4, a5, a6⟩ := kd_abbey w1
  have hA := hX.1.1
  have hW := hG.1.1.1
  have hWL := hG.1.1.2
  refine C2.of (by decide +kernel) (Nat.le_of_ble_eq_true rfl) ?_
  refine r_iload_n (Y := YX8_year) dX8_year_0 rfl ?_
  refine r_iconst (Y := YX8_year) dX8_year_1 ?_
  refine r_sipush (Y := YX8_year) dX8_year_2 ?_
  refine r_iS3I (Y := YX8_year) ms_X8_59 dX8_year_5 (c_isIn (by omega) (by omega) (by omega) (by omega) (by omega) (by omega)) (fun σ5 z5 h5 => ?_)
  obtain ⟨rfl, h5⟩ := h5
  refine r_if_eq (Y := YX8_year) (tgt := 30) dX8_year_8 (by decide) (fun c8 => ?_) (fun c8 => ?_) 
  · refine r_bipush (Y := YX8_year) dX8_year_30 ?_
    refine r_ireturn (Y := YX8_year) dX8_year_32 ?_
    unfold yearF
    (repeat (first | rw [if_pos (by omega)] | rw [if_neg (by omega)]))
    exact ⟨rfl, hX, fun _ _ _ => rfl⟩
  · refine r_iload_n (Y := YX8_year) dX8_year_11 rfl ?_
    refine r_iconst (Y := YX8_year) dX8_year_12 ?_
    refine r_bipush (Y := YX8_year) dX8_year_13 ?_
    refine r_iS3I (Y := YX8_year) ms_X8_59 dX8_year_15 (c_isIn (by omega) (by omega) (by omega) (by omega) (by omega) (by omega)) (fun σ15 z15 h15 => ?_)
    obtain ⟨rfl, h15⟩ := h15
    refine r_if_eq (Y := YX8_year) (tgt := 30) dX8_year_18 (by decide) (fun c18 => ?_) (fun c18 => ?_) 
    · refine r_bipush (Y := YX8_year) dX8_year_30 ?_
      refine r_ireturn (Y := YX8_year) dX8_year_32 ?_
      unfold yearF
      (repeat (first | rw [if_pos (by omega)] | rw [if_neg (by omega)]))
      exact ⟨rfl, hX, fun _ _ _ => rfl⟩
    · refine r_iload_n (Y := YX8_year) dX8_year_21 rfl ?_
      refine r_iconst (Y := YX8_year) dX8_year_22 ?_
      refine r_iconst (Y := YX8_year) dX8_year_23 ?_
      refine r_iS3I (Y := YX8_year) ms_X8_59 dX8_year_24 (c_isIn (by omega) (by omega) (by omega) (by omega) (by omega) (by omega)) (fun σ24 z24 h24 => ?_)
      obtain ⟨rfl, h24⟩ := h24
      refine r_if_ne (Y := YX8_year) (tgt := 33) dX8_year_27 (by decide) (fun c27 => ?_) (fun c27 => ?_) 
      · refine r_aload_n (Y := YX8_year) dX8_year_33 rfl ?_
        refine r_getR (Y := YX8_year) (δz := 95) fl_X8_34 dX8_year_34 rfl rfl ?_
        refine r_aload_n (Y := YX8_year) dX8_year_37 rfl ?_
        refine r_getR (Y := YX8_year) (δz := 3) fl_X8_19 dX8_year_38 rfl rfl ?_
        refine r_getR (Y := YX8_year) (δz := 1) fl_X8_63 dX8_year_41 rfl rfl ?_
        refine r_iV1V (Y := YX8_year) mv_X8_101 dX8_year_44 (c_X0_become k5 w1 hA hW (by omega)) (by assumption) (fun σ44 h44 => ?_)
        obtain ⟨b1, b2⟩ := h44
        refine r_iload_n (Y := YX8_year) dX8_year_47 rfl ?_
        refine r_istore (Y := YX8_year) dX8_year_48 ?_
        refine r_iconst (Y := YX8_year) dX8_year_50 ?_
        refine r_istore (Y := YX8_year) dX8_year_51 ?_
        refine r_iconst (Y := YX8_year) dX8_year_53 ?_
        refine r_istore (Y := YX8_year) dX8_year_54 ?_
        refine r_iconst (Y := YX8_year) dX8_year_56 ?_
        refine r_istore (Y := YX8_year) dX8_year_57 ?_
        obtain ⟨wn, rfl⟩ : ∃ wn : Nat, w = wn := ⟨w.toNat, by omega⟩
        have hyo := yr_ok (q := (s, G.1.1)) (by show 0 ≤ s; omega) (by show s < 65537; omega) hW
        have hbo := brs_bd (q := (s, G.1.1)) (by show 0 ≤ s; omega) (by show s < 65537; omega) hW
        have hlo := lst_bd (q := (s, G.1.1)) (by show 0 ≤ s; omega) (by show s < 65537; omega) hW
        suffices hloop : ∀ (k n : Nat) (τ : ab_S), n + k = wn → RA τ (x + 95) (yrN (s, G.1.1) n).2 → (∀ k i : Int, k < x + 95 ∨ x + 117 < k → τ k i = σ24 k i) → R2 YX8_year 5 τ 59 [some (rf x), some (iv s), some (iv wn), some (iv p), some (iv (yrN (s, G.1.1) n).1), some (iv (brs (s, G.1.1) n)), some (iv (lsc (s, G.1.1) n)), some (iv n)] [] (PI fun σ' z => z = (yearF G s (wn : Int) p).1 ∧ HX σ' x (yearF G s (wn : Int) p).2 ∧ FX σ24 σ' x) from
          R2.weak (by repeat first | exact trivial | refine And.intro rfl ?_) (hloop wn 0 σ44 (by omega) b1 (fun k i b => b2 k i (by omega)))
        intro k
        induction k with
        | zero =>
          intro n τ e1 e3 e5
          have e6 : n = wn := by omega
          subst e6
          have hb9 := hbo n
          have hl9 := hlo n
          have hlc : lsc (s, G.1.1) n = lst (s, G.1.1) n := if_neg (by omega)
          rw [hlc]
          refine r_iload (Y := YX8_year) dX8_year_59 rfl ?_
          refine r_iload_n (Y := YX8_year) dX8_year_61 rfl ?_
          refine r_icmp_ge (Y := YX8_year) (tgt := 118) dX8_year_62 (by decide) (fun c62 => ?_) (fun c62 => absurd c62 (by omega)) 
          refine r_iload_n (Y := YX8_year) dX8_year_118 rfl ?_
          refine r_if_ne (Y := YX8_year) (tgt := 127) dX8_year_119 (by decide) (fun c119 => ?_) (fun c119 => ?_) 
          · refine r_iload (Y := YX8_year) dX8_year_127 rfl ?_
            refine r_ireturn (Y := YX8_year) dX8_year_129 ?_
            have hK : HX τ x G := hX.kept (fun q i b => e5 q i (by omega))
            have hF : FX _ τ x := fun q i b => e5 q i (by omega)
            unfold yearF
            (repeat (first | rw [if_pos (by omega)] | rw [if_neg (by omega)]))
            rw [Int.toNat_natCast]
            exact ⟨rfl, hK, hF⟩
          · refine r_iload (Y := YX8_year) dX8_year_122 rfl ?_
            refine r_goto (Y := YX8_year) (tgt := 129) dX8_year_124 (by decide) ?_
            refine r_ireturn (Y := YX8_year) dX8_year_129 ?_
            have hK : HX τ x G := hX.kept (fun q i b => e5 q i (by omega))
            have hF : FX _ τ x := fun q i b => e5 q i (by omega)
            unfold yearF
            (repeat (first | rw [if_pos (by omega)] | rw [if_neg (by omega)]))
            rw [Int.toNat_natCast]
            exact ⟨rfl, hK, hF⟩
        | succ k ih =>
          intro n τ e1 e3 e5
          have hy9 := hyo n
          have hl9 := hlo n
          have hb9 := hbo (n + 1)
          have ih := ih (n + 1)
          have hst : lst (s, G.1.1) (n + 1) = min (lst (s, G.1.1) n) (brs (s, G.1.1) (n + 1)) := rfl
          have hlc : lsc (s, G.1.1) (n + 1) = lst (s, G.1.1) (n + 1) := if_neg (by omega)
          have hlc0 : (n = 0 ∧ lsc (s, G.1.1) n = 0 ∧ lst (s, G.1.1) n = 2147483647) ∨ (n ≠ 0 ∧ lsc (s, G.1.1) n = lst (s, G.1.1) n) := by
            cases n with
            | zero => exact Or.inl ⟨rfl, rfl, rfl⟩
            | succ n => exact Or.inr ⟨by omega, rfl⟩
          rw [hlc, hst] at ih
          have hq : ((yrN (s, G.1.1) n).1, (yrN (s, G.1.1) n).2) = yrN (s, G.1.1) n := rfl
          have hWd := WA_dwN hy9.2 6 (Nat.le_refl 6)
          refine r_iload (Y := YX8_year) dX8_year_59 rfl ?_
          refine r_iload_n (Y := YX8_year) dX8_year_61 rfl ?_
          refine r_icmp_ge (Y := YX8_year) (tgt := 118) dX8_year_62 (by decide) (fun c62 => absurd c62 (by omega)) (fun c62 => ?_) 
          refine r_aload_n (Y := YX8_year) dX8_year_65 rfl ?_
          refine r_getR (Y := YX8_year) (δz := 95) fl_X8_34 dX8_year_66 rfl rfl ?_
          refine r_iload (Y := YX8_year) dX8_year_69 rfl ?_
          refine r_iV1I (Y := YX8_year) mv_X8_208 dX8_year_71 (c_X0_drawDeeds k5 e3 hy9.2 hy9.1.1 hy9.1.2) (by assumption) (fun σ71 z71 h71 => ?_)
          obtain ⟨f1, f2, f3⟩ := h71
          rw [hq] at f1 f2
          change _ = (yrN (s, G.1.1) (n + 1)).1 at f1
          subst f1
          refine r_istore (Y := YX8_year) dX8_year_74 ?_
          refine r_aload_n (Y := YX8_year) dX8_year_76 rfl ?_
          refine r_getR (Y := YX8_year) (δz := 95) fl_X8_34 dX8_year_77 rfl rfl ?_
          refine r_iV0V (Y := YX8_year) mv_X8_185 dX8_year_80 (c_X0_passWeek k5 f2 hWd) (by assumption) (fun σ80 h80 => ?_)
          obtain ⟨f4, f5⟩ := h80
          change RA _ _ (yrN (s, G.1.1) (n + 1)).2 at f4
          refine r_aload_n (Y := YX8_year) dX8_year_83 rfl ?_
          refine r_getR (Y := YX8_year) (δz := 95) fl_X8_34 dX8_year_84 rfl rfl ?_
          refine r_iconst (Y := YX8_year) dX8_year_87 ?_
          refine r_iV1I (Y := YX8_year) mv_X8_127 dX8_year_88 (c_X0_bearsLess k5 f4 (hyo (n + 1)).2 (by omega) (by omega)) (by assumption) (fun σ88 z88 h88 => ?_)
          obtain ⟨f6, f7⟩ := h88
          change _ = brs (s, G.1.1) (n + 1) at f6
          subst f6
          refine r_istore (Y := YX8_year) dX8_year_91 ?_
          refine r_iload (Y := YX8_year) dX8_year_93 rfl ?_
          refine r_if_ne (Y := YX8_year) (tgt := 103) dX8_year_95 (by decide) (fun c95 => ?_) (fun c95 => ?_) 
          · refine r_iload (Y := YX8_year) dX8_year_103 rfl ?_
            refine r_iload (Y := YX8_year) dX8_year_105 rfl ?_
            refine r_iS2I (Y := YX8_year) ms_X8_211 dX8_year_107 (c_J9_min_7cf53 _ _ _ (by omega) (by omega) (by omega) (by omega)) (fun σ107 z107 h107 => ?_)
            obtain ⟨rfl, rfl⟩ := h107
            refine r_istore (Y := YX8_year) dX8_year_110 ?_
            refine r_iinc (Y := YX8_year) dX8_year_112 rfl ?_
            refine r_goto (Y := YX8_year) (tgt := 59) dX8_year_115 (by decide) ?_
            first
              | (rw [show min (lst (s, G.1.1) n) (brs (s, G.1.1) (n + 1)) = brs (s, G.1.1) (n + 1) by omega] at ih
                 exact R2.weak (by repeat first | exact trivial | refine And.intro rfl ?_) (ih σ88 (by omega) (f4.kept (fun q i b1 b2 b3 => f7 q i (by omega))) (fun q i b => by rw [f7 q i (by omega), f5 q i (by omega), f3 q i (by omega)]; exact e5 q i b)))
              | (rw [show min (lst (s, G.1.1) n) (brs (s, G.1.1) (n + 1)) = min (lsc (s, G.1.1) n) (brs (s, G.1.1) (n + 1)) by omega] at ih
                 exact R2.weak (by repeat first | exact trivial | refine And.intro rfl ?_) (ih σ107 (by omega) (f4.kept (fun q i b1 b2 b3 => f7 q i (by omega))) (fun q i b => by rw [f7 q i (by omega), f5 q i (by omega), f3 q i (by omega)]; exact e5 q i b)))
          · refine r_iload (Y := YX8_year) dX8_year_98 rfl ?_
            refine r_goto (Y := YX8_year) (tgt := 110) dX8_year_100 (by decide) ?_
            refine r_istore (Y := YX8_year) dX8_year_110 ?_
            refine r_iinc (Y := YX8_year) dX8_year_112 rfl ?_
            refine r_goto (Y := YX8_year) (tgt := 59) dX8_year_115 (by decide) ?_
            first
              | (rw [show min (lst (s, G.1.1) n) (brs (s, G.1.1) (n + 1)) = brs (s, G.1.1) (n + 1) by omega] at ih
                 exact R2.weak (by repeat first | exact trivial | refine And.intro rfl ?_) (ih σ88 (by omega) (f4.kept (fun q i b1 b2 b3 => f7 q i (by omega))) (fun q i b => by rw [f7 q i (by omega), f5 q i (by omega), f3 q i (by omega)]; exact e5 q i b)))
              | (rw [show min (lst (s, G.1.1) n) (brs (s, G.1.1) (n + 1)) = min (lsc (s, G.1.1) n) (brs (s, G.1.1) (n + 1)) by omega] at ih
                 exact R2.weak (by repeat first | exact trivial | refine And.intro rfl ?_) (ih σ107 (by omega) (f4.kept (fun q i b1 b2 b3 => f7 q i (by omega))) (fun q i b => by rw [f7 q i (by omega), f5 q i (by omega), f3 q i (by omega)]; exact e5 q i b)))
      · refine r_bipush (Y := YX8_year) dX8_year_30 ?_
        refine r_ireturn (Y := YX8_year) dX8_year_32 ?_
        unfold yearF
        (repeat (first | rw [if_pos (by omega)] | rw [if_neg (by omega)]))
        exact ⟨rfl, hX, fun _ _ _ => rfl⟩
