/-! renewal: its methods -/
def pwA (A : AB) (r : Int) : Int := powL (aS A) (loseL (aWr A) (aR A r))
def etA (A : AB) (r : Int) : Int := max 0 (aWr A - lenL (aR A r))
def FSd (σ : ab_S) (g w : Int) (A : AB) : Prop := ∀ r : Int, 0 ≤ r → r < 4 → σ (g + 117 + (1 + 1 * w)) r = pwA A r ∧ σ (g + 122 + (1 + 1 * w)) r = etA A r
theorem pwA_bd {A : AB} (h : WA A) {r : Int} (h1 : 0 ≤ r) (h2 : r < 4) : 0 ≤ pwA A r ∧ pwA A r ≤ 7128 := by
  have h3 := pow_bd h h.2.2.2.2.1 h1 h2
  unfold pwA
  omega
theorem etA_bd {A : AB} (h : WA A) {r : Int} (h1 : 0 ≤ r) (h2 : r < 4) : 0 ≤ etA A r ∧ etA A r ≤ 9 := by
  have h3 := lenL_bd (h.2.2.2.1 r h1 h2).2
  have h4 := h.2.2.2.2
  unfold etA
  omega
set_option maxRecDepth 20000 in
theorem c_X4_foresee {σ : ab_S} {g w : Int} {A : AB} (hg : kd_ g 4 9) (hw1 : 0 ≤ w) (hw2 : w < 4) (hA : RA σ (g + 1 + (1 + 23 * w)) A) (hW : WA A) : C2 YX4_foresee 2 σ [rf g, iv w] (PV fun σ' => FSd σ' g w A ∧ ∀ k i : Int, k ≠ g + 117 + (1 + 1 * w) → k ≠ g + 122 + (1 + 1 * w) → σ' k i = σ k i) := by
  obtain ⟨k1, k2, k3, k4, k5, k6⟩ := kd_renewal hg
  have ka := kd_ahead hg (i := w) (by omega) (by omega)
  have kw := kd_wornr hg (i := w) (by omega) (by omega)
  have ke := kd_eatenr hg (i := w) (by omega) (by omega)
  obtain ⟨a1, a2, a3, a4, a5, a6⟩ := kd_abbey ka
  refine C2.of (by decide +kernel) (Nat.le_of_ble_eq_true rfl) ?_
  refine r_aload_n (Y := YX4_foresee) dX4_foresee_0 rfl ?_
  refine r_getR (Y := YX4_foresee) (δz := 1) fl_X4_11 dX4_foresee_1 rfl rfl ?_
  refine r_iload_n (Y := YX4_foresee) dX4_foresee_4 rfl ?_
  first | refine r_aaload (Y := YX4_foresee) (δz := 2) (sz := 4) dX4_foresee_5 tg_12 rfl rfl ?_ | refine r_aaload (Y := YX4_foresee) (δz := 1) (sz := 30) dX4_foresee_5 tg_13 rfl rfl ?_ | refine r_aaload (Y := YX4_foresee) (δz := 1) (sz := 23) dX4_foresee_5 tg_14 rfl rfl ?_ | refine r_aaload (Y := YX4_foresee) (δz := 1) (sz := 1) dX4_foresee_5 tg_15 rfl rfl ?_
  refine r_astore_n (Y := YX4_foresee) dX4_foresee_6 ?_
  refine r_iconst (Y := YX4_foresee) dX4_foresee_7 ?_
  refine r_istore_n (Y := YX4_foresee) dX4_foresee_8 ?_
  suffices hloop : ∀ (k n : Nat) (τ : ab_S), n + k = 4 → (∀ r : Int, 0 ≤ r → r < n → τ (g + 117 + (1 + 1 * w)) r = pwA A r ∧ τ (g + 122 + (1 + 1 * w)) r = etA A r) → (∀ k i : Int, k ≠ g + 117 + (1 + 1 * w) → k ≠ g + 122 + (1 + 1 * w) → τ k i = σ k i) → R2 YX4_foresee 2 τ 9 [some (rf g), some (iv w), some (rf (g + 1 + (1 + 23 * w))), some (iv n)] [] (PV fun σ' => FSd σ' g w A ∧ ∀ k i : Int, k ≠ g + 117 + (1 + 1 * w) → k ≠ g + 122 + (1 + 1 * w) → σ' k i = σ k i) from
    R2.weak (by repeat first | exact trivial | refine And.intro rfl ?_) (hloop 4 0 σ rfl (fun r h1 h2 => by omega) (fun _ _ _ _ => rfl))
  intro k
  induction k with
  | zero =>
    intro n τ e1 e3 hF
    have e2 : n = 4 := by omega
    subst e2
    refine r_iload_n (Y := YX4_foresee) dX4_foresee_9 rfl ?_
    refine r_iconst (Y := YX4_foresee) dX4_foresee_10 ?_
    refine r_icmp_ge (Y := YX4_foresee) (tgt := 71) dX4_foresee_11 (by decide) (fun c11 => ?_) (fun c11 => absurd c11 (by omega)) 
    refine r_return (Y := YX4_foresee) dX4_foresee_71 ?_
    exact ⟨fun r h1 h2 => e3 r h1 (by omega), hF⟩
  | succ k ih =>
    intro n τ e1 e3 hF
    have kr := kd_ropes ka (i := n) (by omega) (by omega)
    have hAt : RA τ (g + 1 + (1 + 23 * w)) A := hA.kept (fun q i b1 b2 _ => hF q i (by omega) (by omega))
    have hWn := hW.2.2.2.1 n (by omega) (by omega)
    have hlb := lenL_bd hWn.2
    have hl8 := hWn.1
    have hwr := hW.2.2.2.2
    have hpw : powL (τ (g + 1 + (1 + 23 * w) + 2)) (loseL (aWr A) (aR A n)) = pwA A n := powL_congr hAt.2.1 (hWn.lose hwr.1).2
    refine r_iload_n (Y := YX4_foresee) dX4_foresee_9 rfl ?_
    refine r_iconst (Y := YX4_foresee) dX4_foresee_10 ?_
    refine r_icmp_ge (Y := YX4_foresee) (tgt := 71) dX4_foresee_11 (by decide) (fun c11 => absurd c11 (by omega)) (fun c11 => ?_) 
    refine r_aload_n (Y := YX4_foresee) dX4_foresee_14 rfl ?_
    refine r_getR (Y := YX4_foresee) (δz := 117) fl_X4_20 dX4_foresee_15 rfl rfl ?_
    refine r_iload_n (Y := YX4_foresee) dX4_foresee_18 rfl ?_
    first | refine r_aaload (Y := YX4_foresee) (δz := 2) (sz := 4) dX4_foresee_19 tg_12 rfl rfl ?_ | refine r_aaload (Y := YX4_foresee) (δz := 1) (sz := 30) dX4_foresee_19 tg_13 rfl rfl ?_ | refine r_aaload (Y := YX4_foresee) (δz := 1) (sz := 23) dX4_foresee_19 tg_14 rfl rfl ?_ | refine r_aaload (Y := YX4_foresee) (δz := 1) (sz := 1) dX4_foresee_19 tg_15 rfl rfl ?_
    refine r_iload_n (Y := YX4_foresee) dX4_foresee_20 rfl ?_
    refine r_aload_n (Y := YX4_foresee) dX4_foresee_21 rfl ?_
    refine r_getR (Y := YX4_foresee) (δz := 5) fl_X4_105 dX4_foresee_22 rfl rfl ?_
    refine r_iload_n (Y := YX4_foresee) dX4_foresee_25 rfl ?_
    first | refine r_aaload (Y := YX4_foresee) (δz := 2) (sz := 4) dX4_foresee_26 tg_12 rfl rfl ?_ | refine r_aaload (Y := YX4_foresee) (δz := 1) (sz := 30) dX4_foresee_26 tg_13 rfl rfl ?_ | refine r_aaload (Y := YX4_foresee) (δz := 1) (sz := 23) dX4_foresee_26 tg_14 rfl rfl ?_ | refine r_aaload (Y := YX4_foresee) (δz := 1) (sz := 1) dX4_foresee_26 tg_15 rfl rfl ?_
    refine r_aload_n (Y := YX4_foresee) dX4_foresee_27 rfl ?_
    refine r_getV (Y := YX4_foresee) (v := aWr A) (jz := 6) fl_X4_115 dX4_foresee_28 (hAt.2.2.2.2.2.1) ?_
    refine r_aload_n (Y := YX4_foresee) dX4_foresee_31 rfl ?_
    refine r_getR (Y := YX4_foresee) (δz := 2) fl_X4_102 dX4_foresee_32 rfl rfl ?_
    refine r_iV2I (Y := YX4_foresee) mv_X4_118 dX4_foresee_35 (c_X5_powerLess kr (hAt.2.2.2.2.1 n (by omega) (by omega)) a2 hWn hwr.1 (by omega)) (by assumption) (fun σ35 z35 h35 => ?_)
    obtain ⟨rfl, rfl⟩ := h35
    rw [hpw]
    refine r_iastore (Y := YX4_foresee) dX4_foresee_38 ?_
    refine r_aload_n (Y := YX4_foresee) dX4_foresee_39 rfl ?_
    refine r_getR (Y := YX4_foresee) (δz := 122) fl_X4_23 dX4_foresee_40 rfl rfl ?_
    refine r_iload_n (Y := YX4_foresee) dX4_foresee_43 rfl ?_
    first | refine r_aaload (Y := YX4_foresee) (δz := 2) (sz := 4) dX4_foresee_44 tg_12 rfl rfl ?_ | refine r_aaload (Y := YX4_foresee) (δz := 1) (sz := 30) dX4_foresee_44 tg_13 rfl rfl ?_ | refine r_aaload (Y := YX4_foresee) (δz := 1) (sz := 23) dX4_foresee_44 tg_14 rfl rfl ?_ | refine r_aaload (Y := YX4_foresee) (δz := 1) (sz := 1) dX4_foresee_44 tg_15 rfl rfl ?_
    refine r_iload_n (Y := YX4_foresee) dX4_foresee_45 rfl ?_
    refine r_iconst (Y := YX4_foresee) dX4_foresee_46 ?_
    refine r_aload_n (Y := YX4_foresee) dX4_foresee_47 rfl ?_
    refine r_getV (Y := YX4_foresee) (v := aWr A) (jz := 6) fl_X4_115 dX4_foresee_48 ((by rw [← hAt.2.2.2.2.2.1]; exact (by (try delta up); (try delta cpy); (try dsimp only); repeat (first | rw [if_pos (by omega)] | rw [if_neg (by omega)]); try (first | rfl | assumption | omega)))) ?_
    refine r_aload_n (Y := YX4_foresee) dX4_foresee_51 rfl ?_
    refine r_getR (Y := YX4_foresee) (δz := 5) fl_X4_105 dX4_foresee_52 rfl rfl ?_
    refine r_iload_n (Y := YX4_foresee) dX4_foresee_55 rfl ?_
    first | refine r_aaload (Y := YX4_foresee) (δz := 2) (sz := 4) dX4_foresee_56 tg_12 rfl rfl ?_ | refine r_aaload (Y := YX4_foresee) (δz := 1) (sz := 30) dX4_foresee_56 tg_13 rfl rfl ?_ | refine r_aaload (Y := YX4_foresee) (δz := 1) (sz := 23) dX4_foresee_56 tg_14 rfl rfl ?_ | refine r_aaload (Y := YX4_foresee) (δz := 1) (sz := 1) dX4_foresee_56 tg_15 rfl rfl ?_
    refine r_iV0I (Y := YX4_foresee) mv_X4_122 dX4_foresee_57 (c_X5_length kr ((hAt.kept (fun q i b1 b2 b3 => by (try delta up); (try delta cpy); (try dsimp only); repeat (first | rw [if_pos (by omega)] | rw [if_neg (by omega)]); try (first | rfl | assumption | omega))).2.2.2.2.1 n (by omega) (by omega)) hWn) (by assumption) (fun σ57 z57 h57 => ?_)
    obtain ⟨rfl, rfl⟩ := h57
    refine r_isub (Y := YX4_foresee) dX4_foresee_60 ?_
    refine r_iS2I (Y := YX4_foresee) ms_X4_97 dX4_foresee_61 (c_J9_max_7cf53 _ _ _ (by omega) (by omega) (by omega) (by omega)) (fun σ61 z61 h61 => ?_)
    obtain ⟨rfl, rfl⟩ := h61
    refine r_iastore (Y := YX4_foresee) dX4_foresee_64 ?_
    refine r_iinc (Y := YX4_foresee) dX4_foresee_65 rfl ?_
    refine r_goto (Y := YX4_foresee) (tgt := 9) dX4_foresee_68 (by decide) ?_
    refine R2.weak (by repeat first | exact trivial | refine And.intro rfl ?_) (ih (n + 1) _ (by omega) (fun r h1 h2 => ?_) (fun q i h9 h8 => by rw [← hF q i h9 h8]; exact (by (try delta up); (try delta cpy); (try dsimp only); repeat (first | rw [if_pos (by omega)] | rw [if_neg (by omega)]); try (first | rfl | assumption | omega))))
    by_cases e : r = n
    · subst e
      exact ⟨by (try delta up); (try delta cpy); (try dsimp only); repeat (first | rw [if_pos (by omega)] | rw [if_neg (by omega)]); try (first | rfl | assumption | omega), by (try delta up); (try delta cpy); (try dsimp only); repeat (first | rw [if_pos (by omega)] | rw [if_neg (by omega)]); try (first | rfl | assumption | omega)⟩
    · have h3 := e3 r h1 (by omega)
      rw [← h3.1, ← h3.2]
      exact ⟨by (try delta up); (try delta cpy); (try dsimp only); repeat (first | rw [if_pos (by omega)] | rw [if_neg (by omega)]); try (first | rfl | assumption | omega), by (try delta up); (try delta cpy); (try dsimp only); repeat (first | rw [if_pos (by omega)] | rw [if_neg (by omega)]); try (first | rfl | assumption | omega)⟩
set_option maxRecDepth 20000 in
theorem c_X4_holdsBehind_no {σ : ab_S} {g w : Int} {A : AB} (hg : kd_ g 4 9) (hw1 : 0 ≤ w) (hw2 : w < 4) (hA : RA σ (g + 1 + (1 + 23 * w)) A) (hW : WA A) (hF : FSd σ g w A) {need : Int} (hn : σ g 7 = need) (hn1 : -2147483648 ≤ need) (hn2 : need ≤ 2147483647) : C2 YX4_holdsBehind 2 σ [rf g, iv w, iv (-1), iv 0] (PI fun σ' z => σ' = σ ∧ z = if need ≤ bearsA (oA A 0) 0 then 1 else 0) := by
  obtain ⟨k1, k2, k3, k4, k5, k6⟩ := kd_renewal hg
  have ka := kd_ahead hg (i := w) (by omega) (by omega)
  have kw := kd_wornr hg (i := w) (by omega) (by omega)
  have ke := kd_eatenr hg (i := w) (by omega) (by omega)
  obtain ⟨a1, a2, a3, a4, a5, a6⟩ := kd_abbey ka
  have hpb : ∀ i : Int, 0 ≤ i → i < 4 → 0 ≤ σ (g + 117 + (1 + 1 * w)) i ∧ σ (g + 117 + (1 + 1 * w)) i ≤ 100000 := fun i h1 h2 => by
    rw [(hF i h1 h2).1]
    have := pwA_bd hW h1 h2
    omega
  have hgl : gl (σ (g + 117 + (1 + 1 * w))) = bearsA (oA A 0) 0 := by
    rw [show oA A 0 = weekA A from if_pos rfl, bears_week hW]
    exact gl_congr (fun i h1 h2 => (hF i h1 h2).1)
  have hgb := glr_bd hpb 4 (Nat.le_refl 4)
  change 0 ≤ gl _ ∧ gl _ ≤ _ at hgb
  rw [hgl] at hgb
  refine C2.of (by decide +kernel) (Nat.le_of_ble_eq_true rfl) ?_
  refine r_aload_n (Y := YX4_holdsBehind) dX4_holdsBehind_0 rfl ?_
  refine r_getR (Y := YX4_holdsBehind) (δz := 117) fl_X4_20 dX4_holdsBehind_1 rfl rfl ?_
  refine r_iload_n (Y := YX4_holdsBehind) dX4_holdsBehind_4 rfl ?_
  first | refine r_aaload (Y := YX4_holdsBehind) (δz := 2) (sz := 4) dX4_holdsBehind_5 tg_12 rfl rfl ?_ | refine r_aaload (Y := YX4_holdsBehind) (δz := 1) (sz := 30) dX4_holdsBehind_5 tg_13 rfl rfl ?_ | refine r_aaload (Y := YX4_holdsBehind) (δz := 1) (sz := 23) dX4_holdsBehind_5 tg_14 rfl rfl ?_ | refine r_aaload (Y := YX4_holdsBehind) (δz := 1) (sz := 1) dX4_holdsBehind_5 tg_15 rfl rfl ?_
  refine r_astore (Y := YX4_holdsBehind) dX4_holdsBehind_6 ?_
  refine r_iload_n (Y := YX4_holdsBehind) dX4_holdsBehind_8 rfl ?_
  refine r_iconst (Y := YX4_holdsBehind) dX4_holdsBehind_9 ?_
  refine r_icmp_ne (Y := YX4_holdsBehind) (tgt := 31) dX4_holdsBehind_10 (by decide) (fun c10 => absurd c10 (by omega)) (fun c10 => ?_) 
  refine r_aload (Y := YX4_holdsBehind) dX4_holdsBehind_13 rfl ?_
  refine r_iN1I (Y := YX4_holdsBehind) mn_X4_93 dX4_holdsBehind_15 (c_X8_greatestLoad _ _ kw hpb) (fun σ15 z15 h15 => ?_)
  obtain ⟨rfl, rfl⟩ := h15
  rw [hgl]
  refine r_aload_n (Y := YX4_holdsBehind) dX4_holdsBehind_18 rfl ?_
  refine r_getV (Y := YX4_holdsBehind) (v := need) (jz := 7) fl_X4_40 dX4_holdsBehind_19 (hn) ?_
  refine r_icmp_lt (Y := YX4_holdsBehind) (tgt := 29) dX4_holdsBehind_22 (by decide) (fun c22 => ?_) (fun c22 => ?_) 
  · refine r_iconst (Y := YX4_holdsBehind) dX4_holdsBehind_29 ?_
    refine r_zreturn (Y := YX4_holdsBehind) dX4_holdsBehind_30 (by omega) ?_
    exact ⟨rfl, by first | rw [if_pos (by omega)] | rw [if_neg (by omega)]⟩
  · refine r_iconst (Y := YX4_holdsBehind) dX4_holdsBehind_25 ?_
    refine r_goto (Y := YX4_holdsBehind) (tgt := 30) dX4_holdsBehind_26 (by decide) ?_
    refine r_zreturn (Y := YX4_holdsBehind) dX4_holdsBehind_30 (by omega) ?_
    exact ⟨rfl, by first | rw [if_pos (by omega)] | rw [if_neg (by omega)]⟩
theorem up_back {σ : ab_S} {k i v : Int} : up (up σ k i v) k i (σ k i) = σ := by
  funext a b
  delta up
  try dsimp only
  by_cases e : a = k ∧ b = i
  · rw [if_pos e, e.1, e.2]
  · rw [if_neg e, if_neg e]
set_option maxRecDepth 20000 in
theorem c_X4_holdsBehind_m {σ : ab_S} {g w : Int} {A : AB} (hg : kd_ g 4 9) (hw1 : 0 ≤ w) (hw2 : w < 4) (hA : RA σ (g + 1 + (1 + 23 * w)) A) (hW : WA A) (hF : FSd σ g w A) {need : Int} (hn : σ g 7 = need) (hn1 : -2147483648 ≤ need) (hn2 : need ≤ 2147483647) {m r : Int} (hm1 : 0 ≤ m) (hm2 : m < 6) (hr1 : 0 ≤ r) (hr2 : r < 4) (hb : 0 < aB A m) : C2 YX4_holdsBehind 2 σ [rf g, iv w, iv m, iv r] (PI fun σ' z => σ' = σ ∧ z = if weaveZ A m r = 0 ∧ need ≤ bearsA (weekA (weaveR A m r)) 0 then 1 else 0) := by
  obtain ⟨k1, k2, k3, k4, k5, k6⟩ := kd_renewal hg
  have ka := kd_ahead hg (i := w) (by omega) (by omega)
  have kw := kd_wornr hg (i := w) (by omega) (by omega)
  have ke := kd_eatenr hg (i := w) (by omega) (by omega)
  obtain ⟨a1, a2, a3, a4, a5, a6⟩ := kd_abbey ka
  have kr := kd_ropes ka hr1 hr2
  have hbm := hW.2.2.1 m hm1 hm2
  have hsm := hW.2.1 m hm1 hm2
  have het := etA_bd hW hr1 hr2
  have hpr := pwA_bd hW hr1 hr2
  have hmb : 0 ≤ max 0 (aB A m - etA A r) * aS A m ∧ max 0 (aB A m - etA A r) * aS A m ≤ 99 * 9 := ⟨Int.mul_nonneg (by omega) hsm.1, Int.mul_le_mul (by omega) hsm.2 hsm.1 (by omega)⟩
  have hWr := hW.2.2.2.1 r hr1 hr2
  have hl8 := hWr.1
  have hpb : ∀ i : Int, 0 ≤ i → i < 4 → 0 ≤ up σ (g + 117 + (1 + 1 * w)) r (pwA A r + max 0 (aB A m - etA A r) * aS A m) (g + 117 + (1 + 1 * w)) i ∧ up σ (g + 117 + (1 + 1 * w)) r (pwA A r + max 0 (aB A m - etA A r) * aS A m) (g + 117 + (1 + 1 * w)) i ≤ 100000 := fun i h1 h2 => by
    by_cases e : i = r
    · subst e; rw [up_same]; omega
    · have h3 : up σ (g + 117 + (1 + 1 * w)) r (pwA A r + max 0 (aB A m - etA A r) * aS A m) (g + 117 + (1 + 1 * w)) i = pwA A i := by rw [← (hF i h1 h2).1]; exact (by (try delta up); (try delta cpy); (try dsimp only); repeat (first | rw [if_pos (by omega)] | rw [if_neg (by omega)]); try (first | rfl | assumption | omega))
      rw [h3]
      have := pwA_bd hW h1 h2
      omega
  have hgl : weaveZ A m r = 0 → gl (up σ (g + 117 + (1 + 1 * w)) r (pwA A r + max 0 (aB A m - etA A r) * aS A m) (g + 117 + (1 + 1 * w))) = bearsA (weekA (weaveR A m r)) 0 := by
    intro hz
    rw [bears_weave hW hm1 hm2 hr1 hr2 hz]
    refine gl_congr (fun i h1 h2 => ?_)
    by_cases e : i = r
    · subst e; rw [up_same, fu_same]; rfl
    · rw [fu_ne e]
      refine Eq.trans ?_ (hF i h1 h2).1
      exact (by (try delta up); (try delta cpy); (try dsimp only); repeat (first | rw [if_pos (by omega)] | rw [if_neg (by omega)]); try (first | rfl | assumption | omega))
  have hgb := glr_bd hpb 4 (Nat.le_refl 4)
  change 0 ≤ gl _ ∧ gl _ ≤ _ at hgb
  have hzr : (aR A r).length < 8 → weaveZ A m r = 0 := fun h => by unfold weaveZ; rw [if_neg (by omega), if_neg (by omega)]
  have hzn : ¬ (aR A r).length < 8 → ¬ weaveZ A m r = 0 := fun h => by unfold weaveZ; rw [if_neg (by omega), if_pos (by omega)]; omega
  refine C2.of (by decide +kernel) (Nat.le_of_ble_eq_true rfl) ?_
  refine r_aload_n (Y := YX4_holdsBehind) dX4_holdsBehind_0 rfl ?_
  refine r_getR (Y := YX4_holdsBehind) (δz := 117) fl_X4_20 dX4_holdsBehind_1 rfl rfl ?_
  refine r_iload_n (Y := YX4_holdsBehind) dX4_holdsBehind_4 rfl ?_
  first | refine r_aaload (Y := YX4_holdsBehind) (δz := 2) (sz := 4) dX4_holdsBehind_5 tg_12 rfl rfl ?_ | refine r_aaload (Y := YX4_holdsBehind) (δz := 1) (sz := 30) dX4_holdsBehind_5 tg_13 rfl rfl ?_ | refine r_aaload (Y := YX4_holdsBehind) (δz := 1) (sz := 23) dX4_holdsBehind_5 tg_14 rfl rfl ?_ | refine r_aaload (Y := YX4_holdsBehind) (δz := 1) (sz := 1) dX4_holdsBehind_5 tg_15 rfl rfl ?_
  refine r_astore (Y := YX4_holdsBehind) dX4_holdsBehind_6 ?_
  refine r_iload_n (Y := YX4_holdsBehind) dX4_holdsBehind_8 rfl ?_
  refine r_iconst (Y := YX4_holdsBehind) dX4_holdsBehind_9 ?_
  refine r_icmp_ne (Y := YX4_holdsBehind) (tgt := 31) dX4_holdsBehind_10 (by decide) (fun c10 => ?_) (fun c10 => absurd c10 (by omega)) 
  refine r_aload_n (Y := YX4_holdsBehind) dX4_holdsBehind_31 rfl ?_
  refine r_getR (Y := YX4_holdsBehind) (δz := 1) fl_X4_11 dX4_holdsBehind_32 rfl rfl ?_
  refine r_iload_n (Y := YX4_holdsBehind) dX4_holdsBehind_35 rfl ?_
  first | refine r_aaload (Y := YX4_holdsBehind) (δz := 2) (sz := 4) dX4_holdsBehind_36 tg_12 rfl rfl ?_ | refine r_aaload (Y := YX4_holdsBehind) (δz := 1) (sz := 30) dX4_holdsBehind_36 tg_13 rfl rfl ?_ | refine r_aaload (Y := YX4_holdsBehind) (δz := 1) (sz := 23) dX4_holdsBehind_36 tg_14 rfl rfl ?_ | refine r_aaload (Y := YX4_holdsBehind) (δz := 1) (sz := 1) dX4_holdsBehind_36 tg_15 rfl rfl ?_
  refine r_astore (Y := YX4_holdsBehind) dX4_holdsBehind_37 ?_
  refine r_aload (Y := YX4_holdsBehind) dX4_holdsBehind_39 rfl ?_
  refine r_iload_n (Y := YX4_holdsBehind) dX4_holdsBehind_41 rfl ?_
  refine r_iaV (Y := YX4_holdsBehind) (v := pwA A r) dX4_holdsBehind_42 ((hF r hr1 hr2).1) ?_
  refine r_istore (Y := YX4_holdsBehind) dX4_holdsBehind_43 ?_
  refine r_aload (Y := YX4_holdsBehind) dX4_holdsBehind_45 rfl ?_
  refine r_iload_n (Y := YX4_holdsBehind) dX4_holdsBehind_47 rfl ?_
  refine r_dup2 (Y := YX4_holdsBehind) dX4_holdsBehind_48 ?_
  refine r_iaV (Y := YX4_holdsBehind) (v := pwA A r) dX4_holdsBehind_49 ((hF r hr1 hr2).1) ?_
  refine r_iconst (Y := YX4_holdsBehind) dX4_holdsBehind_50 ?_
  refine r_aload (Y := YX4_holdsBehind) dX4_holdsBehind_51 rfl ?_
  refine r_getR (Y := YX4_holdsBehind) (δz := 3) fl_X4_79 dX4_holdsBehind_53 rfl rfl ?_
  refine r_iload_n (Y := YX4_holdsBehind) dX4_holdsBehind_56 rfl ?_
  refine r_iaV (Y := YX4_holdsBehind) (v := aB A m) dX4_holdsBehind_57 (hA.2.2.1 m hm1 hm2) ?_
  refine r_aload_n (Y := YX4_holdsBehind) dX4_holdsBehind_58 rfl ?_
  refine r_getR (Y := YX4_holdsBehind) (δz := 122) fl_X4_23 dX4_holdsBehind_59 rfl rfl ?_
  refine r_iload_n (Y := YX4_holdsBehind) dX4_holdsBehind_62 rfl ?_
  first | refine r_aaload (Y := YX4_holdsBehind) (δz := 2) (sz := 4) dX4_holdsBehind_63 tg_12 rfl rfl ?_ | refine r_aaload (Y := YX4_holdsBehind) (δz := 1) (sz := 30) dX4_holdsBehind_63 tg_13 rfl rfl ?_ | refine r_aaload (Y := YX4_holdsBehind) (δz := 1) (sz := 23) dX4_holdsBehind_63 tg_14 rfl rfl ?_ | refine r_aaload (Y := YX4_holdsBehind) (δz := 1) (sz := 1) dX4_holdsBehind_63 tg_15 rfl rfl ?_
  refine r_iload_n (Y := YX4_holdsBehind) dX4_holdsBehind_64 rfl ?_
  refine r_iaV (Y := YX4_holdsBehind) (v := etA A r) dX4_holdsBehind_65 ((hF r hr1 hr2).2) ?_
  refine r_isub (Y := YX4_holdsBehind) dX4_holdsBehind_66 ?_
  refine r_iS2I (Y := YX4_holdsBehind) ms_X4_97 dX4_holdsBehind_67 (c_J9_max_7cf53 _ _ _ (by omega) (by omega) (by omega) (by omega)) (fun σ67 z67 h67 => ?_)
  obtain ⟨rfl, rfl⟩ := h67
  refine r_aload (Y := YX4_holdsBehind) dX4_holdsBehind_70 rfl ?_
  refine r_getR (Y := YX4_holdsBehind) (δz := 2) fl_X4_102 dX4_holdsBehind_72 rfl rfl ?_
  refine r_iload_n (Y := YX4_holdsBehind) dX4_holdsBehind_75 rfl ?_
  refine r_iaV (Y := YX4_holdsBehind) (v := aS A m) dX4_holdsBehind_76 (hA.2.1 m hm1 hm2) ?_
  refine r_imul (Y := YX4_holdsBehind) dX4_holdsBehind_77 ?_
  refine r_iadd (Y := YX4_holdsBehind) dX4_holdsBehind_78 ?_
  refine r_iastore (Y := YX4_holdsBehind) dX4_holdsBehind_79 ?_
  refine r_aload (Y := YX4_holdsBehind) dX4_holdsBehind_80 rfl ?_
  refine r_getR (Y := YX4_holdsBehind) (δz := 5) fl_X4_105 dX4_holdsBehind_82 rfl rfl ?_
  refine r_iload_n (Y := YX4_holdsBehind) dX4_holdsBehind_85 rfl ?_
  first | refine r_aaload (Y := YX4_holdsBehind) (δz := 2) (sz := 4) dX4_holdsBehind_86 tg_12 rfl rfl ?_ | refine r_aaload (Y := YX4_holdsBehind) (δz := 1) (sz := 30) dX4_holdsBehind_86 tg_13 rfl rfl ?_ | refine r_aaload (Y := YX4_holdsBehind) (δz := 1) (sz := 23) dX4_holdsBehind_86 tg_14 rfl rfl ?_ | refine r_aaload (Y := YX4_holdsBehind) (δz := 1) (sz := 1) dX4_holdsBehind_86 tg_15 rfl rfl ?_
  refine r_iV0I (Y := YX4_holdsBehind) mv_X4_109 dX4_holdsBehind_87 (PI_zz (c_X5_hasRoom kr ((hA.kept (fun q i b1 b2 b3 => by (try delta up); (try delta cpy); (try dsimp only); repeat (first | rw [if_pos (by omega)] | rw [if_neg (by omega)]); try (first | rfl | assumption | omega))).2.2.2.2.1 r hr1 hr2) hWr.1)) (by assumption) (fun σ87 z87 h87 => ?_)
  obtain ⟨rfl, h87⟩ := h87
  refine r_if_eq (Y := YX4_holdsBehind) (tgt := 109) dX4_holdsBehind_90 (by decide) (fun c90 => ?_) (fun c90 => ?_) 
  · refine r_iconst (Y := YX4_holdsBehind) dX4_holdsBehind_109 ?_
    refine r_istore (Y := YX4_holdsBehind) dX4_holdsBehind_110 ?_
    refine r_aload (Y := YX4_holdsBehind) dX4_holdsBehind_112 rfl ?_
    refine r_iload_n (Y := YX4_holdsBehind) dX4_holdsBehind_114 rfl ?_
    refine r_iload (Y := YX4_holdsBehind) dX4_holdsBehind_115 rfl ?_
    refine r_iastore (Y := YX4_holdsBehind) dX4_holdsBehind_117 ?_
    refine r_iload (Y := YX4_holdsBehind) dX4_holdsBehind_118 rfl ?_
    refine r_zreturn (Y := YX4_holdsBehind) dX4_holdsBehind_120 (by omega) ?_
    refine ⟨by rw [← (hF r hr1 hr2).1]; exact up_back, ?_⟩
    by_cases hroom : (aR A r).length < 8
    · have hz0 := hzr hroom
      first | omega | (rw [if_pos ⟨hz0, by omega⟩]) | (rw [if_neg (fun h => absurd h.2 (by omega))])
    · have hz0 := hzn hroom
      rw [if_neg (fun h => hz0 h.1)]
      try omega
  · refine r_aload (Y := YX4_holdsBehind) dX4_holdsBehind_93 rfl ?_
    refine r_iN1I (Y := YX4_holdsBehind) mn_X4_93 dX4_holdsBehind_95 (c_X8_greatestLoad _ _ kw hpb) (fun σ95 z95 h95 => ?_)
    obtain ⟨rfl, rfl⟩ := h95
    have hroom : (aR A r).length < 8 := (by omega)
    rw [hgl (hzr hroom)]
    rw [hgl (hzr hroom)] at hgb
    refine r_aload_n (Y := YX4_holdsBehind) dX4_holdsBehind_98 rfl ?_
    refine r_getV (Y := YX4_holdsBehind) (v := need) (jz := 7) fl_X4_40 dX4_holdsBehind_99 ((by rw [← hn]; exact (by (try delta up); (try delta cpy); (try dsimp only); repeat (first | rw [if_pos (by omega)] | rw [if_neg (by omega)]); try (first | rfl | assumption | omega)))) ?_
    refine r_icmp_lt (Y := YX4_holdsBehind) (tgt := 109) dX4_holdsBehind_102 (by decide) (fun c102 => ?_) (fun c102 => ?_) 
    · refine r_iconst (Y := YX4_holdsBehind) dX4_holdsBehind_109 ?_
      refine r_istore (Y := YX4_holdsBehind) dX4_holdsBehind_110 ?_
      refine r_aload (Y := YX4_holdsBehind) dX4_holdsBehind_112 rfl ?_
      refine r_iload_n (Y := YX4_holdsBehind) dX4_holdsBehind_114 rfl ?_
      refine r_iload (Y := YX4_holdsBehind) dX4_holdsBehind_115 rfl ?_
      refine r_iastore (Y := YX4_holdsBehind) dX4_holdsBehind_117 ?_
      refine r_iload (Y := YX4_holdsBehind) dX4_holdsBehind_118 rfl ?_
      refine r_zreturn (Y := YX4_holdsBehind) dX4_holdsBehind_120 (by omega) ?_
      refine ⟨by rw [← (hF r hr1 hr2).1]; exact up_back, ?_⟩
      by_cases hroom : (aR A r).length < 8
      · have hz0 := hzr hroom
        first | omega | (rw [if_pos ⟨hz0, by omega⟩]) | (rw [if_neg (fun h => absurd h.2 (by omega))])
      · have hz0 := hzn hroom
        rw [if_neg (fun h => hz0 h.1)]
        try omega
    · refine r_iconst (Y := YX4_holdsBehind) dX4_holdsBehind_105 ?_
      refine r_goto (Y := YX4_holdsBehind) (tgt := 110) dX4_holdsBehind_106 (by decide) ?_
      refine r_istore (Y := YX4_holdsBehind) dX4_holdsBehind_110 ?_
      refine r_aload (Y := YX4_holdsBehind) dX4_holdsBehind_112 rfl ?_
      refine r_iload_n (Y := YX4_holdsBehind) dX4_holdsBehind_114 rfl ?_
      refine r_iload (Y := YX4_holdsBehind) dX4_holdsBehind_115 rfl ?_
      refine r_iastore (Y := YX4_holdsBehind) dX4_holdsBehind_117 ?_
      refine r_iload (Y := YX4_holdsBehind) dX4_holdsBehind_118 rfl ?_
      refine r_zreturn (Y := YX4_holdsBehind) dX4_holdsBehind_120 (by omega) ?_
      refine ⟨by rw [← (hF r hr1 hr2).1]; exact up_back, ?_⟩
      by_cases hroom : (aR A r).length < 8
      · have hz0 := hzr hroom
        first | omega | (rw [if_pos ⟨hz0, by omega⟩]) | (rw [if_neg (fun h => absurd h.2 (by omega))])
      · have hz0 := hzn hroom
        rw [if_neg (fun h => hz0 h.1)]
        try omega
