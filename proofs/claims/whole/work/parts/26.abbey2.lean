/-! bits, breaking, gifts, draws -/
def bt (s m : Int) : Int := ban (bsr s m) 1
theorem bt_01 : ∀ s : Nat, s < 64 → ∀ m : Nat, m < 6 → bt s m = 0 ∨ bt s m = 1 := by decide +kernel
theorem bt_bd {s m : Int} (h1 : 0 ≤ s) (h2 : s < 64) (h3 : 0 ≤ m) (h4 : m < 6) : bt s m = 0 ∨ bt s m = 1 := by
  have := bt_01 s.toNat (by omega) m.toNat (by omega)
  rwa [show ((s.toNat : Nat) : Int) = s by omega, show ((m.toNat : Nat) : Int) = m by omega] at this
/-- which of the ropes that hold break under a load -/
def brkN (P : Int → Int) (h load : Int) : Nat → Int
  | 0 => 0
  | n + 1 => if bt h n ≠ 0 ∧ P n * pc6 h < load then bor (brkN P h load n) (bsl 1 n) else brkN P h load n
def hldN (P : Int → Int) : Nat → Int
  | 0 => 0
  | n + 1 => if 0 < P n then bor (hldN P n) (bsl 1 n) else hldN P n
/-- (holding, broken), round by round -/
def rdStep (P : Int → Int) (load : Int) (q : Int × Int) : Int × Int := (ban q.1 (bxo (brkN P q.1 load 4) (-1)), bor q.2 (brkN P q.1 load 4))
def rdN (P : Int → Int) (load : Int) : Nat → Int × Int
  | 0 => (hldN P 4, 0)
  | n + 1 => rdStep P load (rdN P load n)
def brkA (A : AB) (load : Int) : Int := (rdN (fun r => powL (aS A) (aR A r)) load 4).2
theorem bor_bd : ∀ n : Nat, n < 4 → ∀ x : Nat, x < 2 ^ n → 0 ≤ bor x (bsl 1 n) ∧ bor x (bsl 1 n) < (2 ^ (n + 1) : Nat) := by decide +kernel
theorem bor16 : ∀ x : Nat, x < 16 → ∀ y : Nat, y < 16 → 0 ≤ bor x y ∧ bor x y < 16 := by decide +kernel
theorem ban16 : ∀ x : Nat, x < 16 → ∀ y : Nat, y < 16 → 0 ≤ ban x (bxo y (-1)) ∧ ban x (bxo y (-1)) < 16 := by decide +kernel
theorem brkN_bd {P : Int → Int} {h load : Int} : ∀ n : Nat, n ≤ 4 → 0 ≤ brkN P h load n ∧ brkN P h load n < (2 ^ n : Nat)
  | 0, _ => by simp [brkN]
  | n + 1, hn => by
    have h1 := brkN_bd (P := P) (h := h) (load := load) n (by omega)
    show 0 ≤ (if bt h n ≠ 0 ∧ P n * pc6 h < load then bor (brkN P h load n) (bsl 1 n) else brkN P h load n) ∧ (if bt h n ≠ 0 ∧ P n * pc6 h < load then bor (brkN P h load n) (bsl 1 n) else brkN P h load n) < (2 ^ (n + 1) : Nat)
    have h2 : 2 ^ (n + 1) = 2 * 2 ^ n := by rw [Nat.pow_succ, Nat.mul_comm]
    split
    · have h3 := bor_bd n (by omega) (brkN P h load n).toNat (by omega)
      rwa [show (((brkN P h load n).toNat : Nat) : Int) = brkN P h load n by omega] at h3
    · omega
theorem hldN_bd {P : Int → Int} : ∀ n : Nat, n ≤ 4 → 0 ≤ hldN P n ∧ hldN P n < (2 ^ n : Nat)
  | 0, _ => by simp [hldN]
  | n + 1, hn => by
    have h1 := hldN_bd (P := P) n (by omega)
    show 0 ≤ (if 0 < P n then bor (hldN P n) (bsl 1 n) else hldN P n) ∧ (if 0 < P n then bor (hldN P n) (bsl 1 n) else hldN P n) < (2 ^ (n + 1) : Nat)
    have h2 : 2 ^ (n + 1) = 2 * 2 ^ n := by rw [Nat.pow_succ, Nat.mul_comm]
    split
    · have h3 := bor_bd n (by omega) (hldN P n).toNat (by omega)
      rwa [show (((hldN P n).toNat : Nat) : Int) = hldN P n by omega] at h3
    · omega
theorem rdN_bd {P : Int → Int} {load : Int} : ∀ n : Nat, (0 ≤ (rdN P load n).1 ∧ (rdN P load n).1 < 16) ∧ (0 ≤ (rdN P load n).2 ∧ (rdN P load n).2 < 16)
  | 0 => by
    have h1 := hldN_bd (P := P) 4 (Nat.le_refl 4)
    show (0 ≤ hldN P 4 ∧ hldN P 4 < 16) ∧ (0 ≤ (0 : Int) ∧ (0 : Int) < 16)
    omega
  | n + 1 => by
    have h1 := rdN_bd (P := P) (load := load) n
    generalize hq : rdN P load n = q at h1
    have h2 := brkN_bd (P := P) (h := q.1) (load := load) 4 (Nat.le_refl 4)
    have h3 := bor16 q.2.toNat (by omega) (brkN P q.1 load 4).toNat (by omega)
    have h4 := ban16 q.1.toNat (by omega) (brkN P q.1 load 4).toNat (by omega)
    rw [show ((q.2.toNat : Nat) : Int) = q.2 by omega, show (((brkN P q.1 load 4).toNat : Nat) : Int) = brkN P q.1 load 4 by omega] at h3
    rw [show ((q.1.toNat : Nat) : Int) = q.1 by omega, show (((brkN P q.1 load 4).toNat : Nat) : Int) = brkN P q.1 load 4 by omega] at h4
    show (0 ≤ (rdStep P load (rdN P load n)).1 ∧ (rdStep P load (rdN P load n)).1 < 16) ∧ (0 ≤ (rdStep P load (rdN P load n)).2 ∧ (rdStep P load (rdN P load n)).2 < 16)
    rw [hq]
    exact ⟨h4, h3⟩
theorem brkN_congr {f g : Int → Int} {h load : Int} (hc : ∀ i : Int, 0 ≤ i → i < 4 → f i = g i) : ∀ n : Nat, n ≤ 4 → brkN f h load n = brkN g h load n
  | 0, _ => rfl
  | n + 1, hn => by
    show (if bt h n ≠ 0 ∧ f n * pc6 h < load then bor (brkN f h load n) (bsl 1 n) else brkN f h load n) = (if bt h n ≠ 0 ∧ g n * pc6 h < load then bor (brkN g h load n) (bsl 1 n) else brkN g h load n)
    rw [hc n (by omega) (by omega), brkN_congr hc n (by omega)]
theorem hldN_congr {f g : Int → Int} (hc : ∀ i : Int, 0 ≤ i → i < 4 → f i = g i) : ∀ n : Nat, n ≤ 4 → hldN f n = hldN g n
  | 0, _ => rfl
  | n + 1, hn => by
    show (if 0 < f n then bor (hldN f n) (bsl 1 n) else hldN f n) = (if 0 < g n then bor (hldN g n) (bsl 1 n) else hldN g n)
    rw [hc n (by omega) (by omega), hldN_congr hc n (by omega)]
theorem pc16 : ∀ x : Nat, x < 16 → 0 ≤ pc6 x ∧ pc6 x ≤ 4 := by decide +kernel
theorem pc16b {x : Int} (h1 : 0 ≤ x) (h2 : x < 16) : 0 ≤ pc6 x ∧ pc6 x ≤ 4 := by
  have := pc16 x.toNat (by omega)
  rwa [show ((x.toNat : Nat) : Int) = x by omega] at this
set_option maxRecDepth 20000 in
theorem c_X0_breaking {σ : ab_S} {a : Int} (ha : kd_ a 0 8) {h load : Int} (hh1 : 0 ≤ h) (hh2 : h < 16) (hl1 : 0 ≤ load) (hl2 : load ≤ 99999) (hp : ∀ i : Int, 0 ≤ i → i < 4 → 0 ≤ σ (a + 6) i ∧ σ (a + 6) i ≤ 100000) : C2 YX0_breaking 1 σ [rf a, iv h, iv load] (PI fun σ' z => σ' = σ ∧ z = brkN (σ (a + 6)) h load 4) := by
  obtain ⟨k1, k2, k3, k4, k5, k6⟩ := kd_abbey ha
  have hpc := pc16b hh1 hh2
  refine C2.of (by decide +kernel) (Nat.le_of_ble_eq_true rfl) ?_
  refine r_iload_n (Y := YX0_breaking) dX0_breaking_0 rfl ?_
  refine r_iS1I (Y := YX0_breaking) ms_X0_96 dX0_breaking_1 (c_J6_bitCount_0f7a4 _ _ hh1 (by omega)) (fun σ1 z1 h1 => ?_)
  obtain ⟨rfl, rfl⟩ := h1
  refine r_istore_n (Y := YX0_breaking) dX0_breaking_4 ?_
  refine r_iconst (Y := YX0_breaking) dX0_breaking_5 ?_
  refine r_istore (Y := YX0_breaking) dX0_breaking_6 ?_
  refine r_iconst (Y := YX0_breaking) dX0_breaking_8 ?_
  refine r_istore (Y := YX0_breaking) dX0_breaking_9 ?_
  suffices hloop : ∀ (k n : Nat), n + k = 4 → R2 YX0_breaking 1 σ1 11 [some (rf a), some (iv h), some (iv load), some (iv (pc6 h)), some (iv (brkN (σ1 (a + 6)) h load n)), some (iv n)] [] (PI fun σ' z => σ' = σ1 ∧ z = brkN (σ1 (a + 6)) h load 4) from
    R2.weak (by repeat first | exact trivial | refine And.intro rfl ?_) (hloop 4 0 rfl)
  intro k
  induction k with
  | zero =>
    intro n e1
    have e2 : n = 4 := by omega
    subst e2
    refine r_iload (Y := YX0_breaking) dX0_breaking_11 rfl ?_
    refine r_iconst (Y := YX0_breaking) dX0_breaking_13 ?_
    refine r_icmp_ge (Y := YX0_breaking) (tgt := 54) dX0_breaking_14 (by decide) (fun c14 => ?_) (fun c14 => absurd c14 (by omega)) 
    refine r_iload (Y := YX0_breaking) dX0_breaking_54 rfl ?_
    refine r_ireturn (Y := YX0_breaking) dX0_breaking_56 ?_
    exact ⟨rfl, rfl⟩
  | succ k ih =>
    intro n e1
    have hb9 := bt_bd (s := h) (m := n) hh1 (by omega) (by omega) (by omega)
    have hpn := hp n (by omega) (by omega)
    have hmb := mul_bd hpn.1 hpn.2 hpc.1 hpc.2
    have hst : brkN (σ1 (a + 6)) h load (n + 1) = if bt h n ≠ 0 ∧ σ1 (a + 6) n * pc6 h < load then bor (brkN (σ1 (a + 6)) h load n) (bsl 1 n) else brkN (σ1 (a + 6)) h load n := rfl
    refine r_iload (Y := YX0_breaking) dX0_breaking_11 rfl ?_
    refine r_iconst (Y := YX0_breaking) dX0_breaking_13 ?_
    refine r_icmp_ge (Y := YX0_breaking) (tgt := 54) dX0_breaking_14 (by decide) (fun c14 => absurd c14 (by omega)) (fun c14 => ?_) 
    refine r_iload_n (Y := YX0_breaking) dX0_breaking_17 rfl ?_
    refine r_iload (Y := YX0_breaking) dX0_breaking_18 rfl ?_
    refine r_ishr (Y := YX0_breaking) dX0_breaking_20 ?_
    refine r_iconst (Y := YX0_breaking) dX0_breaking_21 ?_
    refine r_iand (Y := YX0_breaking) dX0_breaking_22 ?_
    change R2 _ _ _ _ _ (iv (bt h n) :: _) _
    refine r_if_eq (Y := YX0_breaking) (tgt := 48) dX0_breaking_23 (by decide) (fun c23 => ?_) (fun c23 => ?_) 
    · refine r_iinc (Y := YX0_breaking) dX0_breaking_48 rfl ?_
      refine r_goto (Y := YX0_breaking) (tgt := 11) dX0_breaking_51 (by decide) ?_
      refine R2.weak (ls' := [some (rf a), some (iv h), some (iv load), some (iv (pc6 h)), some (iv (brkN (σ1 (a + 6)) h load (n + 1))), some (iv ((n + 1 : Nat) : Int))]) ?_ (ih (n + 1) (by omega))
      first | rw [hst, if_pos ⟨by omega, by omega⟩] | rw [hst, if_neg (by omega)]
      repeat first | exact trivial | refine And.intro rfl ?_
    · refine r_aload_n (Y := YX0_breaking) dX0_breaking_26 rfl ?_
      refine r_getR (Y := YX0_breaking) (δz := 6) fl_X0_30 dX0_breaking_27 rfl rfl ?_
      refine r_iload (Y := YX0_breaking) dX0_breaking_30 rfl ?_
      refine r_iaload (Y := YX0_breaking) dX0_breaking_32 ?_
      refine r_iload_n (Y := YX0_breaking) dX0_breaking_33 rfl ?_
      refine r_imul (Y := YX0_breaking) dX0_breaking_34 ?_
      refine r_iload_n (Y := YX0_breaking) dX0_breaking_35 rfl ?_
      refine r_icmp_ge (Y := YX0_breaking) (tgt := 48) dX0_breaking_36 (by decide) (fun c36 => ?_) (fun c36 => ?_) 
      · refine r_iinc (Y := YX0_breaking) dX0_breaking_48 rfl ?_
        refine r_goto (Y := YX0_breaking) (tgt := 11) dX0_breaking_51 (by decide) ?_
        refine R2.weak (ls' := [some (rf a), some (iv h), some (iv load), some (iv (pc6 h)), some (iv (brkN (σ1 (a + 6)) h load (n + 1))), some (iv ((n + 1 : Nat) : Int))]) ?_ (ih (n + 1) (by omega))
        first | rw [hst, if_pos ⟨by omega, by omega⟩] | rw [hst, if_neg (by omega)]
        repeat first | exact trivial | refine And.intro rfl ?_
      · refine r_iload (Y := YX0_breaking) dX0_breaking_39 rfl ?_
        refine r_iconst (Y := YX0_breaking) dX0_breaking_41 ?_
        refine r_iload (Y := YX0_breaking) dX0_breaking_42 rfl ?_
        refine r_ishl (Y := YX0_breaking) dX0_breaking_44 ?_
        refine r_ior (Y := YX0_breaking) dX0_breaking_45 ?_
        refine r_istore (Y := YX0_breaking) dX0_breaking_46 ?_
        refine r_iinc (Y := YX0_breaking) dX0_breaking_48 rfl ?_
        refine r_goto (Y := YX0_breaking) (tgt := 11) dX0_breaking_51 (by decide) ?_
        refine R2.weak (ls' := [some (rf a), some (iv h), some (iv load), some (iv (pc6 h)), some (iv (brkN (σ1 (a + 6)) h load (n + 1))), some (iv ((n + 1 : Nat) : Int))]) ?_ (ih (n + 1) (by omega))
        first | rw [hst, if_pos ⟨by omega, by omega⟩] | rw [hst, if_neg (by omega)]
        repeat first | exact trivial | refine And.intro rfl ?_
set_option maxRecDepth 20000 in
theorem c_X0_brokenUnder {σ : ab_S} {a : Int} {A : AB} (ha : kd_ a 0 8) (hA : RA σ a A) (hW : WA A) {load : Int} (hl1 : 0 ≤ load) (hl2 : load ≤ 99999) : C2 YX0_brokenUnder 2 σ [rf a, iv load] (PI fun σ' z => z = brkA A load ∧ ∀ k i : Int, k ≠ a + 6 → σ' k i = σ k i) := by
  obtain ⟨k1, k2, k3, k4, k5, k6⟩ := kd_abbey ha
  refine C2.of (by decide +kernel) (Nat.le_of_ble_eq_true rfl) ?_
  have hPb : ∀ i : Int, 0 ≤ i → i < 4 → 0 ≤ powL (aS A) (aR A i) ∧ powL (aS A) (aR A i) ≤ 7128 := fun i h1 h2 => by
    have h3 := hW.2.2.2.1 i h1 h2
    have h4 := powL_bd hW.2.1 h3.2
    have h5 := h3.1
    omega
  refine r_iconst (Y := YX0_brokenUnder) dX0_brokenUnder_0 ?_
  refine r_istore_n (Y := YX0_brokenUnder) dX0_brokenUnder_1 ?_
  refine r_iconst (Y := YX0_brokenUnder) dX0_brokenUnder_2 ?_
  refine r_istore_n (Y := YX0_brokenUnder) dX0_brokenUnder_3 ?_
  suffices hloop : ∀ (k n : Nat) (τ : ab_S), n + k = 4 → (∀ r : Int, 0 ≤ r → r < n → τ (a + 6) r = powL (aS A) (aR A r)) → (∀ k i : Int, k ≠ a + 6 → τ k i = σ k i) → R2 YX0_brokenUnder 2 τ 4 [some (rf a), some (iv load), some (iv (hldN (fun r => powL (aS A) (aR A r)) n)), some (iv n), none, none] [] (PI fun σ' z => z = brkA A load ∧ ∀ k i : Int, k ≠ a + 6 → σ' k i = σ k i) from
    R2.weak (by repeat first | exact trivial | refine And.intro rfl ?_) (hloop 4 0 σ rfl (fun r h1 h2 => by omega) (fun _ _ _ => rfl))
  intro k
  induction k with
  | zero =>
    intro n τ e1 e3 hF
    have e2 : n = 4 := by omega
    subst e2
    have hpb : ∀ i : Int, 0 ≤ i → i < 4 → 0 ≤ τ (a + 6) i ∧ τ (a + 6) i ≤ 100000 := fun i h1 h2 => by
      rw [e3 i h1 (by omega)]
      have := hPb i h1 h2
      omega
    have hcg : ∀ h : Int, brkN (τ (a + 6)) h load 4 = brkN (fun r => powL (aS A) (aR A r)) h load 4 := fun h => brkN_congr (fun i h1 h2 => e3 i h1 (by omega)) 4 (Nat.le_refl 4)
    refine r_iload_n (Y := YX0_brokenUnder) dX0_brokenUnder_4 rfl ?_
    refine r_iconst (Y := YX0_brokenUnder) dX0_brokenUnder_5 ?_
    refine r_icmp_ge (Y := YX0_brokenUnder) (tgt := 50) dX0_brokenUnder_6 (by decide) (fun c6 => ?_) (fun c6 => absurd c6 (by omega)) 
    refine r_iconst (Y := YX0_brokenUnder) dX0_brokenUnder_50 ?_
    refine r_istore_n (Y := YX0_brokenUnder) dX0_brokenUnder_51 ?_
    refine r_iconst (Y := YX0_brokenUnder) dX0_brokenUnder_52 ?_
    refine r_istore (Y := YX0_brokenUnder) dX0_brokenUnder_53 ?_
    suffices hrd : ∀ (k2 j : Nat), j + k2 = 4 → R2 YX0_brokenUnder 2 τ 55 [some (rf a), some (iv load), some (iv (rdN (fun r => powL (aS A) (aR A r)) load j).1), some (iv (rdN (fun r => powL (aS A) (aR A r)) load j).2), some (iv j), none] [] (PI fun σ' z => z = brkA A load ∧ ∀ k i : Int, k ≠ a + 6 → σ' k i = σ k i) from
      R2.weak (by repeat first | exact trivial | refine And.intro rfl ?_) (hrd 4 0 rfl)
    intro k2
    induction k2 with
    | zero =>
      intro j e5
      have e6 : j = 4 := by omega
      subst e6
      refine r_iload (Y := YX0_brokenUnder) dX0_brokenUnder_55 rfl ?_
      refine r_iconst (Y := YX0_brokenUnder) dX0_brokenUnder_57 ?_
      refine r_icmp_ge (Y := YX0_brokenUnder) (tgt := 87) dX0_brokenUnder_58 (by decide) (fun c58 => ?_) (fun c58 => absurd c58 (by omega)) 
      refine r_iload_n (Y := YX0_brokenUnder) dX0_brokenUnder_87 rfl ?_
      refine r_ireturn (Y := YX0_brokenUnder) dX0_brokenUnder_88 ?_
      exact ⟨rfl, hF⟩
    | succ k2 ih2 =>
      intro j e5
      have hrb := rdN_bd (P := (fun r => powL (aS A) (aR A r))) (load := load) j
      refine r_iload (Y := YX0_brokenUnder) dX0_brokenUnder_55 rfl ?_
      refine r_iconst (Y := YX0_brokenUnder) dX0_brokenUnder_57 ?_
      refine r_icmp_ge (Y := YX0_brokenUnder) (tgt := 87) dX0_brokenUnder_58 (by decide) (fun c58 => absurd c58 (by omega)) (fun c58 => ?_) 
      refine r_aload_n (Y := YX0_brokenUnder) dX0_brokenUnder_61 rfl ?_
      refine r_iload_n (Y := YX0_brokenUnder) dX0_brokenUnder_62 rfl ?_
      refine r_iload_n (Y := YX0_brokenUnder) dX0_brokenUnder_63 rfl ?_
      refine r_iV2I (Y := YX0_brokenUnder) mv_X0_93 dX0_brokenUnder_64 (c_X0_breaking ha hrb.1.1 hrb.1.2 hl1 hl2 hpb) (by assumption) (fun σ64 z64 h64 => ?_)
      obtain ⟨rfl, rfl⟩ := h64
      rw [hcg]
      refine r_istore (Y := YX0_brokenUnder) dX0_brokenUnder_67 ?_
      refine r_iload_n (Y := YX0_brokenUnder) dX0_brokenUnder_69 rfl ?_
      refine r_iload (Y := YX0_brokenUnder) dX0_brokenUnder_70 rfl ?_
      refine r_ior (Y := YX0_brokenUnder) dX0_brokenUnder_72 ?_
      refine r_istore_n (Y := YX0_brokenUnder) dX0_brokenUnder_73 ?_
      refine r_iload_n (Y := YX0_brokenUnder) dX0_brokenUnder_74 rfl ?_
      refine r_iload (Y := YX0_brokenUnder) dX0_brokenUnder_75 rfl ?_
      refine r_iconst (Y := YX0_brokenUnder) dX0_brokenUnder_77 ?_
      refine r_ixor (Y := YX0_brokenUnder) dX0_brokenUnder_78 ?_
      refine r_iand (Y := YX0_brokenUnder) dX0_brokenUnder_79 ?_
      refine r_istore_n (Y := YX0_brokenUnder) dX0_brokenUnder_80 ?_
      refine r_iinc (Y := YX0_brokenUnder) dX0_brokenUnder_81 rfl ?_
      refine r_goto (Y := YX0_brokenUnder) (tgt := 55) dX0_brokenUnder_84 (by decide) ?_
      exact R2.weak (by repeat first | exact trivial | refine And.intro rfl ?_) (ih2 (j + 1) (by omega))
  | succ k ih =>
    intro n τ e1 e3 hF
    have kr := kd_ropes ha (i := n) (by omega) (by omega)
    have hAt : RA τ a A := hA.kept (fun q i _ _ h9 => hF q i h9)
    have hWn := hW.2.2.2.1 n (by omega) (by omega)
    have hPn := hPb n (by omega) (by omega)
    have hst : hldN (fun r => powL (aS A) (aR A r)) (n + 1) = if 0 < powL (aS A) (aR A n) then bor (hldN (fun r => powL (aS A) (aR A r)) n) (bsl 1 n) else hldN (fun r => powL (aS A) (aR A r)) n := rfl
    refine r_iload_n (Y := YX0_brokenUnder) dX0_brokenUnder_4 rfl ?_
    refine r_iconst (Y := YX0_brokenUnder) dX0_brokenUnder_5 ?_
    refine r_icmp_ge (Y := YX0_brokenUnder) (tgt := 50) dX0_brokenUnder_6 (by decide) (fun c6 => absurd c6 (by omega)) (fun c6 => ?_) 
    refine r_aload_n (Y := YX0_brokenUnder) dX0_brokenUnder_9 rfl ?_
    refine r_getR (Y := YX0_brokenUnder) (δz := 6) fl_X0_30 dX0_brokenUnder_10 rfl rfl ?_
    refine r_iload_n (Y := YX0_brokenUnder) dX0_brokenUnder_13 rfl ?_
    refine r_aload_n (Y := YX0_brokenUnder) dX0_brokenUnder_14 rfl ?_
    refine r_getR (Y := YX0_brokenUnder) (δz := 5) fl_X0_26 dX0_brokenUnder_15 rfl rfl ?_
    refine r_iload_n (Y := YX0_brokenUnder) dX0_brokenUnder_18 rfl ?_
    first | refine r_aaload (Y := YX0_brokenUnder) (δz := 2) (sz := 4) dX0_brokenUnder_19 tg_12 rfl rfl ?_ | refine r_aaload (Y := YX0_brokenUnder) (δz := 1) (sz := 30) dX0_brokenUnder_19 tg_13 rfl rfl ?_ | refine r_aaload (Y := YX0_brokenUnder) (δz := 1) (sz := 23) dX0_brokenUnder_19 tg_14 rfl rfl ?_ | refine r_aaload (Y := YX0_brokenUnder) (δz := 1) (sz := 1) dX0_brokenUnder_19 tg_15 rfl rfl ?_
    refine r_iconst (Y := YX0_brokenUnder) dX0_brokenUnder_20 ?_
    refine r_aload_n (Y := YX0_brokenUnder) dX0_brokenUnder_21 rfl ?_
    refine r_getR (Y := YX0_brokenUnder) (δz := 2) fl_X0_15 dX0_brokenUnder_22 rfl rfl ?_
    refine r_iV2I (Y := YX0_brokenUnder) mv_X0_85 dX0_brokenUnder_25 (c_X5_powerLess kr (hAt.2.2.2.2.1 n (by omega) (by omega)) k2 hWn (len := 0) (by omega) (by omega)) (by assumption) (fun σ25 z25 h25 => ?_)
    obtain ⟨rfl, rfl⟩ := h25
    rw [loseL_zero hWn.2, powL_congr hAt.2.1 hWn.2]
    refine r_iastore (Y := YX0_brokenUnder) dX0_brokenUnder_28 ?_
    have hup : ∀ r : Int, 0 ≤ r → r < n + 1 → up σ25 (a + 6) n (powL (aS A) (aR A n)) (a + 6) r = powL (aS A) (aR A r) := fun r h1 h2 => by
      by_cases e : r = n
      · subst e; rw [up_same]
      · rw [up_ne (by omega)]; exact e3 r h1 (by omega)
    have hup2 : ∀ q i : Int, q ≠ a + 6 → up σ25 (a + 6) n (powL (aS A) (aR A n)) q i = σ q i := fun q i h9 => by rw [← hF q i h9]; exact (by (try delta up); (try delta cpy); (try dsimp only); repeat (first | rw [if_pos (by omega)] | rw [if_neg (by omega)]); try (first | rfl | assumption | omega))
    refine r_aload_n (Y := YX0_brokenUnder) dX0_brokenUnder_29 rfl ?_
    refine r_getR (Y := YX0_brokenUnder) (δz := 6) fl_X0_30 dX0_brokenUnder_30 rfl rfl ?_
    refine r_iload_n (Y := YX0_brokenUnder) dX0_brokenUnder_33 rfl ?_
    refine r_iaV (Y := YX0_brokenUnder) (v := powL (aS A) (aR A n)) dX0_brokenUnder_34 (up_same _ _ _ _) ?_
    refine r_if_le (Y := YX0_brokenUnder) (tgt := 44) dX0_brokenUnder_35 (by decide) (fun c35 => ?_) (fun c35 => ?_) 
    · refine r_iinc (Y := YX0_brokenUnder) dX0_brokenUnder_44 rfl ?_
      refine r_goto (Y := YX0_brokenUnder) (tgt := 4) dX0_brokenUnder_47 (by decide) ?_
      have hst2 := ih (n + 1) _ (by omega) (fun r h1 h2 => hup r h1 (by omega)) (fun q i h9 => hup2 q i h9)
      rw [hst] at hst2
      first | rw [if_pos (by omega)] at hst2 | rw [if_neg (by omega)] at hst2
      exact R2.weak (by repeat first | exact trivial | refine And.intro rfl ?_) hst2
    · refine r_iload_n (Y := YX0_brokenUnder) dX0_brokenUnder_38 rfl ?_
      refine r_iconst (Y := YX0_brokenUnder) dX0_brokenUnder_39 ?_
      refine r_iload_n (Y := YX0_brokenUnder) dX0_brokenUnder_40 rfl ?_
      refine r_ishl (Y := YX0_brokenUnder) dX0_brokenUnder_41 ?_
      refine r_ior (Y := YX0_brokenUnder) dX0_brokenUnder_42 ?_
      refine r_istore_n (Y := YX0_brokenUnder) dX0_brokenUnder_43 ?_
      refine r_iinc (Y := YX0_brokenUnder) dX0_brokenUnder_44 rfl ?_
      refine r_goto (Y := YX0_brokenUnder) (tgt := 4) dX0_brokenUnder_47 (by decide) ?_
      have hst2 := ih (n + 1) _ (by omega) (fun r h1 h2 => hup r h1 (by omega)) (fun q i h9 => hup2 q i h9)
      rw [hst] at hst2
      first | rw [if_pos (by omega)] at hst2 | rw [if_neg (by omega)] at hst2
      exact R2.weak (by repeat first | exact trivial | refine And.intro rfl ?_) hst2
def gvStep (s d r : Int) (B : AB) (n : Nat) : AB := if bt s n = 0 then B else weaveR (setB (setH B n 0) n (min 99 (aB B n + min 40 (aH B n + d)))) n r
def gvN (s d r : Int) (A : AB) : Nat → AB
  | 0 => A
  | n + 1 => gvStep s d r (gvN s d r A n) n
def giveA (s d r : Int) (A : AB) : AB := gvN s d r A 6
theorem WA_gvStep {s d r : Int} {B : AB} {n : Nat} (h : WA B) (hd : 0 ≤ d) (hr : 0 ≤ r) (hr2 : r < 4) (hn : n < 6) : WA (gvStep s d r B n) := by
  have h1 := h.1 n (by omega) (by omega)
  have h2 := h.2.2.1 n (by omega) (by omega)
  unfold gvStep
  split
  · exact h
  · exact WA_weaveR (WA_setB (WA_setH h (by omega) (by omega)) (by omega) (by omega)) (by omega) (by omega) hr hr2
theorem WA_gvN {s d r : Int} {A : AB} (h : WA A) (hd : 0 ≤ d) (hr : 0 ≤ r) (hr2 : r < 4) : ∀ n : Nat, n ≤ 6 → WA (gvN s d r A n)
  | 0, _ => h
  | n + 1, hn => WA_gvStep (WA_gvN h hd hr hr2 n (by omega)) hd hr hr2 (by omega)
set_option maxRecDepth 20000 in
theorem c_X0_giveAll {σ : ab_S} {a : Int} {A : AB} (ha : kd_ a 0 8) (hA : RA σ a A) (hW : WA A) {s d r : Int} (hs1 : 0 ≤ s) (hs2 : s < 64) (hd1 : 0 ≤ d) (hd2 : d ≤ 9) (hr1 : 0 ≤ r) (hr2 : r < 4) : C2 YX0_giveAll 3 σ [rf a, iv s, iv d, iv r] (PV fun σ' => RA σ' a (giveA s d r A) ∧ FA σ σ' a) := by
  obtain ⟨k1, k2, k3, k4, k5, k6⟩ := kd_abbey ha
  refine C2.of (by decide +kernel) (Nat.le_of_ble_eq_true rfl) ?_
  refine r_iconst (Y := YX0_giveAll) dX0_giveAll_0 ?_
  refine r_istore (Y := YX0_giveAll) dX0_giveAll_1 ?_
  suffices hloop : ∀ (k n : Nat) (τ : ab_S), n + k = 6 → RA τ a (gvN s d r A n) → FA σ τ a → R2 YX0_giveAll 3 τ 3 [some (rf a), some (iv s), some (iv d), some (iv r), some (iv n), none] [] (PV fun σ' => RA σ' a (giveA s d r A) ∧ FA σ σ' a) from
    R2.weak (by repeat first | exact trivial | refine And.intro rfl ?_) (hloop 6 0 σ rfl hA FA.rf)
  intro k
  induction k with
  | zero =>
    intro n τ e1 hB hF
    have e2 : n = 6 := by omega
    subst e2
    refine r_iload (Y := YX0_giveAll) dX0_giveAll_3 rfl ?_
    refine r_bipush (Y := YX0_giveAll) dX0_giveAll_5 ?_
    refine r_icmp_ge (Y := YX0_giveAll) (tgt := 79) dX0_giveAll_7 (by decide) (fun c7 => ?_) (fun c7 => absurd c7 (by omega)) 
    refine r_return (Y := YX0_giveAll) dX0_giveAll_79 ?_
    exact ⟨hB, hF⟩
  | succ k ih =>
    intro n τ e1 hB hF
    have hb9 := bt_bd (s := s) (m := n) hs1 hs2 (by omega) (by omega)
    have hWB := WA_gvN (s := s) (d := d) (r := r) hW hd1 hr1 hr2 n (by omega)
    have hgv : gvN s d r A (n + 1) = gvStep s d r (gvN s d r A n) n := rfl
    generalize gvN s d r A n = B at hB hWB hgv
    have hhn := hWB.1 n (by omega) (by omega)
    have hbn := hWB.2.2.1 n (by omega) (by omega)
    refine r_iload (Y := YX0_giveAll) dX0_giveAll_3 rfl ?_
    refine r_bipush (Y := YX0_giveAll) dX0_giveAll_5 ?_
    refine r_icmp_ge (Y := YX0_giveAll) (tgt := 79) dX0_giveAll_7 (by decide) (fun c7 => absurd c7 (by omega)) (fun c7 => ?_) 
    refine r_iload_n (Y := YX0_giveAll) dX0_giveAll_10 rfl ?_
    refine r_iload (Y := YX0_giveAll) dX0_giveAll_11 rfl ?_
    refine r_ishr (Y := YX0_giveAll) dX0_giveAll_13 ?_
    refine r_iconst (Y := YX0_giveAll) dX0_giveAll_14 ?_
    refine r_iand (Y := YX0_giveAll) dX0_giveAll_15 ?_
    change R2 _ _ _ _ _ (iv (bt s n) :: _) _
    refine r_if_eq (Y := YX0_giveAll) (tgt := 73) dX0_giveAll_16 (by decide) (fun c16 => ?_) (fun c16 => ?_) 
    · refine r_iinc (Y := YX0_giveAll) dX0_giveAll_73 rfl ?_
      refine r_goto (Y := YX0_giveAll) (tgt := 3) dX0_giveAll_76 (by decide) ?_
      first
      | (have hst : gvStep s d r B n = B := if_pos (by omega)
         exact R2.weak (by repeat first | exact trivial | refine And.intro rfl ?_) (ih (n + 1) _ (by omega) (by rw [hgv, hst]; exact hB) hF))
      | (obtain ⟨b1, b2, b3⟩ := h69
         have hst : gvStep s d r B n = weaveR (setB (setH B n 0) n (min 99 (aB B n + min 40 (aH B n + d)))) n r := if_neg (by omega)
         exact R2.weak (by repeat first | exact trivial | refine And.intro rfl ?_) (ih (n + 1) _ (by omega) (by rw [hgv, hst]; exact b2) (fun q i h9 => by rw [b3 q i h9, ← hF q i h9]; exact (by (try delta up); (try delta cpy); (try dsimp only); repeat (first | rw [if_pos (by omega)] | rw [if_neg (by omega)]); try (first | rfl | assumption | omega)))))
    · refine r_bipush (Y := YX0_giveAll) dX0_giveAll_19 ?_
      refine r_aload_n (Y := YX0_giveAll) dX0_giveAll_21 rfl ?_
      refine r_getR (Y := YX0_giveAll) (δz := 1) fl_X0_9 dX0_giveAll_22 rfl rfl ?_
      refine r_iload (Y := YX0_giveAll) dX0_giveAll_25 rfl ?_
      refine r_iaV (Y := YX0_giveAll) (v := aH B n) dX0_giveAll_27 (hB.1 n (by omega) (by omega)) ?_
      refine r_iload_n (Y := YX0_giveAll) dX0_giveAll_28 rfl ?_
      refine r_iadd (Y := YX0_giveAll) dX0_giveAll_29 ?_
      refine r_iS2I (Y := YX0_giveAll) ms_X0_69 dX0_giveAll_30 (c_J9_min_7cf53 _ _ _ (by omega) (by omega) (by omega) (by omega)) (fun σ30 z30 h30 => ?_)
      obtain ⟨rfl, rfl⟩ := h30
      refine r_istore (Y := YX0_giveAll) dX0_giveAll_33 ?_
      refine r_aload_n (Y := YX0_giveAll) dX0_giveAll_35 rfl ?_
      refine r_getR (Y := YX0_giveAll) (δz := 1) fl_X0_9 dX0_giveAll_36 rfl rfl ?_
      refine r_iload (Y := YX0_giveAll) dX0_giveAll_39 rfl ?_
      refine r_iconst (Y := YX0_giveAll) dX0_giveAll_41 ?_
      refine r_iastore (Y := YX0_giveAll) dX0_giveAll_42 ?_
      refine r_aload_n (Y := YX0_giveAll) dX0_giveAll_43 rfl ?_
      refine r_getR (Y := YX0_giveAll) (δz := 3) fl_X0_18 dX0_giveAll_44 rfl rfl ?_
      refine r_iload (Y := YX0_giveAll) dX0_giveAll_47 rfl ?_
      refine r_bipush (Y := YX0_giveAll) dX0_giveAll_49 ?_
      refine r_aload_n (Y := YX0_giveAll) dX0_giveAll_51 rfl ?_
      refine r_getR (Y := YX0_giveAll) (δz := 3) fl_X0_18 dX0_giveAll_52 rfl rfl ?_
      refine r_iload (Y := YX0_giveAll) dX0_giveAll_55 rfl ?_
      refine r_iaV (Y := YX0_giveAll) (v := aB B n) dX0_giveAll_57 ((by rw [← hB.2.2.1 n (by omega) (by omega)]; exact (by (try delta up); (try delta cpy); (try dsimp only); repeat (first | rw [if_pos (by omega)] | rw [if_neg (by omega)]); try (first | rfl | assumption | omega)))) ?_
      refine r_iload (Y := YX0_giveAll) dX0_giveAll_58 rfl ?_
      refine r_iadd (Y := YX0_giveAll) dX0_giveAll_60 ?_
      refine r_iS2I (Y := YX0_giveAll) ms_X0_69 dX0_giveAll_61 (c_J9_min_7cf53 _ _ _ (by omega) (by omega) (by omega) (by omega)) (fun σ61 z61 h61 => ?_)
      obtain ⟨rfl, rfl⟩ := h61
      refine r_iastore (Y := YX0_giveAll) dX0_giveAll_64 ?_
      have hB2 : RA (up (up σ30 (a + 1) n 0) (a + 3) n (min 99 (aB B n + min 40 (aH B n + d)))) a (setB (setH B n 0) n (min 99 (aB B n + min 40 (aH B n + d)))) := RA_setB (σ := up σ30 (a + 1) n 0) (RA_setH hB (by (try delta up); (try delta cpy); (try dsimp only); repeat (first | rw [if_pos (by omega)] | rw [if_neg (by omega)]); try (first | rfl | assumption | omega)) (fun q i _ _ h9 => by (try delta up); (try delta cpy); (try dsimp only); repeat (first | rw [if_pos (by omega)] | rw [if_neg (by omega)]); try (first | rfl | assumption | omega))) (by (try delta up); (try delta cpy); (try dsimp only); repeat (first | rw [if_pos (by omega)] | rw [if_neg (by omega)]); try (first | rfl | assumption | omega)) (fun q i _ _ h9 => by (try delta up); (try delta cpy); (try dsimp only); repeat (first | rw [if_pos (by omega)] | rw [if_neg (by omega)]); try (first | rfl | assumption | omega))
      have hW2 : WA (setB (setH B n 0) n (min 99 (aB B n + min 40 (aH B n + d)))) := WA_setB (WA_setH hWB (by omega) (by omega)) (by omega) (by omega)
      refine r_aload_n (Y := YX0_giveAll) dX0_giveAll_65 rfl ?_
      refine r_iload (Y := YX0_giveAll) dX0_giveAll_66 rfl ?_
      refine r_iload_n (Y := YX0_giveAll) dX0_giveAll_68 rfl ?_
      refine r_iV2I (Y := YX0_giveAll) mv_X0_75 dX0_giveAll_69 (c_X0_weave ha hB2 hW2 (by omega) (by omega) hr1 hr2) (by assumption) (fun σ69 z69 h69 => ?_)
      refine r_pop (Y := YX0_giveAll) dX0_giveAll_72 ?_
      refine r_iinc (Y := YX0_giveAll) dX0_giveAll_73 rfl ?_
      refine r_goto (Y := YX0_giveAll) (tgt := 3) dX0_giveAll_76 (by decide) ?_
      first
      | (have hst : gvStep s d r B n = B := if_pos (by omega)
         exact R2.weak (by repeat first | exact trivial | refine And.intro rfl ?_) (ih (n + 1) _ (by omega) (by rw [hgv, hst]; exact hB) hF))
      | (obtain ⟨b1, b2, b3⟩ := h69
         have hst : gvStep s d r B n = weaveR (setB (setH B n 0) n (min 99 (aB B n + min 40 (aH B n + d)))) n r := if_neg (by omega)
         exact R2.weak (by repeat first | exact trivial | refine And.intro rfl ?_) (ih (n + 1) _ (by omega) (by rw [hgv, hst]; exact b2) (fun q i h9 => by rw [b3 q i h9, ← hF q i h9]; exact (by (try delta up); (try delta cpy); (try dsimp only); repeat (first | rw [if_pos (by omega)] | rw [if_neg (by omega)]); try (first | rfl | assumption | omega)))))
def dwStep (q : Int × AB) (n : Nat) : Int × AB := ((75 * q.1 + 74) % 65537, if (75 * q.1 + 74) % 65537 % 3 = 0 then sinR q.2 n 1 else if (75 * q.1 + 74) % 65537 % 3 = 1 then prayR q.2 n 1 else weaveR q.2 n ((75 * q.1 + 74) % 65537 % 4))
def dwN (q : Int × AB) : Nat → Int × AB
  | 0 => q
  | n + 1 => dwStep (dwN q n) n
theorem dwN_bd {q : Int × AB} (h1 : 0 ≤ q.1) (h2 : q.1 < 65537) : ∀ n : Nat, 0 ≤ (dwN q n).1 ∧ (dwN q n).1 < 65537
  | 0 => ⟨h1, h2⟩
  | n + 1 => by
    show 0 ≤ (75 * (dwN q n).1 + 74) % 65537 ∧ (75 * (dwN q n).1 + 74) % 65537 < 65537
    omega
theorem WA_dwN {q : Int × AB} (h : WA q.2) : ∀ n : Nat, n ≤ 6 → WA (dwN q n).2
  | 0, _ => h
  | n + 1, hn => by
    have h1 := WA_dwN h n (by omega)
    show WA (if (75 * (dwN q n).1 + 74) % 65537 % 3 = 0 then sinR (dwN q n).2 n 1 else if (75 * (dwN q n).1 + 74) % 65537 % 3 = 1 then prayR (dwN q n).2 n 1 else weaveR (dwN q n).2 n ((75 * (dwN q n).1 + 74) % 65537 % 4))
    split
    · exact WA_sinR h1 (by omega) (by omega) (by omega)
    · split
      · exact WA_prayR h1 (by omega) (by omega) (by omega)
      · exact WA_weaveR h1 (by omega) (by omega) (by omega) (by omega)
set_option maxRecDepth 20000 in
theorem c_X0_drawDeeds {σ : ab_S} {a : Int} {A : AB} (ha : kd_ a 0 8) (hA : RA σ a A) (hW : WA A) {x : Int} (hx1 : 0 ≤ x) (hx2 : x < 65537) : C2 YX0_drawDeeds 3 σ [rf a, iv x] (PI fun σ' z => z = (dwN (x, A) 6).1 ∧ RA σ' a (dwN (x, A) 6).2 ∧ FA σ σ' a) := by
  obtain ⟨k1, k2, k3, k4, k5, k6⟩ := kd_abbey ha
  refine C2.of (by decide +kernel) (Nat.le_of_ble_eq_true rfl) ?_
  refine r_iload_n (Y := YX0_drawDeeds) dX0_drawDeeds_0 rfl ?_
  refine r_istore_n (Y := YX0_drawDeeds) dX0_drawDeeds_1 ?_
  refine r_iconst (Y := YX0_drawDeeds) dX0_drawDeeds_2 ?_
  refine r_istore_n (Y := YX0_drawDeeds) dX0_drawDeeds_3 ?_
  suffices hloop : ∀ (k n : Nat) (τ : ab_S), n + k = 6 → RA τ a (dwN (x, A) n).2 → FA σ τ a → R2 YX0_drawDeeds 3 τ 4 [some (rf a), some (iv x), some (iv (dwN (x, A) n).1), some (iv n)] [] (PI fun σ' z => z = (dwN (x, A) 6).1 ∧ RA σ' a (dwN (x, A) 6).2 ∧ FA σ σ' a) from
    R2.weak (by repeat first | exact trivial | refine And.intro rfl ?_) (hloop 6 0 σ rfl hA FA.rf)
  intro k
  induction k with
  | zero =>
    intro n τ e1 hB hF
    have e2 : n = 6 := by omega
    subst e2
    refine r_iload_n (Y := YX0_drawDeeds) dX0_drawDeeds_4 rfl ?_
    refine r_bipush (Y := YX0_drawDeeds) dX0_drawDeeds_5 ?_
    refine r_icmp_ge (Y := YX0_drawDeeds) (tgt := 87) dX0_drawDeeds_7 (by decide) (fun c7 => ?_) (fun c7 => absurd c7 (by omega)) 
    refine r_iload_n (Y := YX0_drawDeeds) dX0_drawDeeds_87 rfl ?_
    refine r_ireturn (Y := YX0_drawDeeds) dX0_drawDeeds_88 ?_
    exact ⟨rfl, hB, hF⟩
  | succ k ih =>
    intro n τ e1 hB hF
    have hyb := dwN_bd (q := (x, A)) hx1 hx2 n
    have hWB := WA_dwN (q := (x, A)) hW n (by omega)
    have hgv : dwN (x, A) (n + 1) = dwStep (dwN (x, A) n) n := rfl
    have ih := ih (n + 1)
    rw [hgv] at ih
    generalize dwN (x, A) n = q at hB hWB ih hyb
    refine r_iload_n (Y := YX0_drawDeeds) dX0_drawDeeds_4 rfl ?_
    refine r_bipush (Y := YX0_drawDeeds) dX0_drawDeeds_5 ?_
    refine r_icmp_ge (Y := YX0_drawDeeds) (tgt := 87) dX0_drawDeeds_7 (by decide) (fun c7 => absurd c7 (by omega)) (fun c7 => ?_) 
    refine r_bipush (Y := YX0_drawDeeds) dX0_drawDeeds_10 ?_
    refine r_iload_n (Y := YX0_drawDeeds) dX0_drawDeeds_12 rfl ?_
    refine r_imul (Y := YX0_drawDeeds) dX0_drawDeeds_13 ?_
    refine r_bipush (Y := YX0_drawDeeds) dX0_drawDeeds_14 ?_
    refine r_iadd (Y := YX0_drawDeeds) dX0_drawDeeds_16 ?_
    refine r_ldc (Y := YX0_drawDeeds) (z := 65537) wc_X0_78 dX0_drawDeeds_17 (by decide) ?_
    refine r_irem (Y := YX0_drawDeeds) dX0_drawDeeds_19 ?_
    refine r_top (Y := YX0_drawDeeds) (v := (75 * q.1 + 74) % 65537) (Int.tmod_eq_emod_of_nonneg (by omega)) ?_
    refine r_istore_n (Y := YX0_drawDeeds) dX0_drawDeeds_20 ?_
    refine r_iload_n (Y := YX0_drawDeeds) dX0_drawDeeds_21 rfl ?_
    refine r_iconst (Y := YX0_drawDeeds) dX0_drawDeeds_22 ?_
    refine r_irem (Y := YX0_drawDeeds) dX0_drawDeeds_23 ?_
    refine r_top (Y := YX0_drawDeeds) (v := (75 * q.1 + 74) % 65537 % 3) (Int.tmod_eq_emod_of_nonneg (by omega)) ?_
    have h3 : (75 * q.1 + 74) % 65537 % 3 = 0 ∨ (75 * q.1 + 74) % 65537 % 3 = 1 ∨ (75 * q.1 + 74) % 65537 % 3 = 2 := by omega
    rcases h3 with h3 | h3 | h3
    · rw [h3]
      have hst : (dwStep q n).2 = sinR q.2 n 1 := if_pos h3
      refine r_lookup (Y := YX0_drawDeeds) (off := 28) (tgt := 52) dX0_drawDeeds_24 (by decide) (by decide) (by decide) ?_
      refine r_aload_n (Y := YX0_drawDeeds) dX0_drawDeeds_52 rfl ?_
      refine r_iload_n (Y := YX0_drawDeeds) dX0_drawDeeds_53 rfl ?_
      refine r_iconst (Y := YX0_drawDeeds) dX0_drawDeeds_54 ?_
      refine r_iV2I (Y := YX0_drawDeeds) mv_X0_79 dX0_drawDeeds_55 (c_X0_sin ha hB hWB (by omega) (by omega) (by omega) (by omega)) (by assumption) (fun σ55 z55 h55 => ?_)
      refine r_pop (Y := YX0_drawDeeds) dX0_drawDeeds_58 ?_
      refine r_goto (Y := YX0_drawDeeds) (tgt := 81) dX0_drawDeeds_59 (by decide) ?_
      refine r_iinc (Y := YX0_drawDeeds) dX0_drawDeeds_81 rfl ?_
      refine r_goto (Y := YX0_drawDeeds) (tgt := 4) dX0_drawDeeds_84 (by decide) ?_
      obtain ⟨b1, b2, b3⟩ := h55
      refine R2.weak (by repeat first | exact trivial | refine And.intro rfl ?_) (ih _ (by omega) (by rw [hst]; exact b2) (fun q i h9 => by rw [b3 q i h9]; exact hF q i h9))
    · rw [h3]
      have hst : (dwStep q n).2 = prayR q.2 n 1 := by show (if (75 * q.1 + 74) % 65537 % 3 = 0 then sinR q.2 n 1 else if (75 * q.1 + 74) % 65537 % 3 = 1 then prayR q.2 n 1 else weaveR q.2 n ((75 * q.1 + 74) % 65537 % 4)) = _; rw [if_neg (by omega), if_pos h3]
      refine r_lookup (Y := YX0_drawDeeds) (off := 38) (tgt := 62) dX0_drawDeeds_24 (by decide) (by decide) (by decide) ?_
      refine r_aload_n (Y := YX0_drawDeeds) dX0_drawDeeds_62 rfl ?_
      refine r_iload_n (Y := YX0_drawDeeds) dX0_drawDeeds_63 rfl ?_
      refine r_iconst (Y := YX0_drawDeeds) dX0_drawDeeds_64 ?_
      refine r_iV2I (Y := YX0_drawDeeds) mv_X0_82 dX0_drawDeeds_65 (c_X0_pray ha hB hWB (by omega) (by omega) (by omega) (by omega)) (by assumption) (fun σ65 z65 h65 => ?_)
      refine r_pop (Y := YX0_drawDeeds) dX0_drawDeeds_68 ?_
      refine r_goto (Y := YX0_drawDeeds) (tgt := 81) dX0_drawDeeds_69 (by decide) ?_
      refine r_iinc (Y := YX0_drawDeeds) dX0_drawDeeds_81 rfl ?_
      refine r_goto (Y := YX0_drawDeeds) (tgt := 4) dX0_drawDeeds_84 (by decide) ?_
      obtain ⟨b1, b2, b3⟩ := h65
      refine R2.weak (by repeat first | exact trivial | refine And.intro rfl ?_) (ih _ (by omega) (by rw [hst]; exact b2) (fun q i h9 => by rw [b3 q i h9]; exact hF q i h9))
    · rw [h3]
      have hst : (dwStep q n).2 = weaveR q.2 n ((75 * q.1 + 74) % 65537 % 4) := by show (if (75 * q.1 + 74) % 65537 % 3 = 0 then sinR q.2 n 1 else if (75 * q.1 + 74) % 65537 % 3 = 1 then prayR q.2 n 1 else weaveR q.2 n ((75 * q.1 + 74) % 65537 % 4)) = _; rw [if_neg (by omega), if_neg (by omega)]
      refine r_lookup (Y := YX0_drawDeeds) (off := 48) (tgt := 72) dX0_drawDeeds_24 (by decide) (by decide) (by decide) ?_
      refine r_aload_n (Y := YX0_drawDeeds) dX0_drawDeeds_72 rfl ?_
      refine r_iload_n (Y := YX0_drawDeeds) dX0_drawDeeds_73 rfl ?_
      refine r_iload_n (Y := YX0_drawDeeds) dX0_drawDeeds_74 rfl ?_
      refine r_iconst (Y := YX0_drawDeeds) dX0_drawDeeds_75 ?_
      refine r_irem (Y := YX0_drawDeeds) dX0_drawDeeds_76 ?_
      refine r_top (Y := YX0_drawDeeds) (v := (75 * q.1 + 74) % 65537 % 4) (Int.tmod_eq_emod_of_nonneg (by omega)) ?_
      refine r_iV2I (Y := YX0_drawDeeds) mv_X0_75 dX0_drawDeeds_77 (c_X0_weave ha hB hWB (by omega) (by omega) (by omega) (by omega)) (by assumption) (fun σ77 z77 h77 => ?_)
      refine r_pop (Y := YX0_drawDeeds) dX0_drawDeeds_80 ?_
      refine r_iinc (Y := YX0_drawDeeds) dX0_drawDeeds_81 rfl ?_
      refine r_goto (Y := YX0_drawDeeds) (tgt := 4) dX0_drawDeeds_84 (by decide) ?_
      obtain ⟨b1, b2, b3⟩ := h77
      refine R2.weak (by repeat first | exact trivial | refine And.intro rfl ?_) (ih _ (by omega) (by rw [hst]; exact b2) (fun q i h9 => by rw [b3 q i h9]; exact hF q i h9))
