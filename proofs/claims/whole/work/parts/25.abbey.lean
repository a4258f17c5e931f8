/-! the abbey's methods -/
theorem RA_lose {σ τ : ab_S} {a r : Int} {A : AB} {L : List Lk} {f : Int → Int} (h : RA σ a A) (h0 : 0 ≤ r) (h9 : r < 4) (hr : RR τ (a + 5 + (2 + 4 * r)) L) (hv : ∀ m : Int, 0 ≤ m → m < 6 → τ (a + 4) m = f m) (hf : ∀ k i : Int, k < a + 5 + (2 + 4 * r) ∨ a + 5 + (2 + 4 * r) + 3 < k → k ≠ a + 4 → τ k i = σ k i) : RA τ a (setW (setR A r L) f) := by
  obtain ⟨h1, h2, h3, h4, h5, h6, h7⟩ := h
  refine ⟨fun q a1 a2 => ?_, fun q a1 a2 => ?_, fun q a1 a2 => ?_, hv, fun q a1 a2 => ?_, ?_, ?_⟩
  · rw [hf _ _ (by omega) (by omega)]; exact h1 q a1 a2
  · rw [hf _ _ (by omega) (by omega)]; exact h2 q a1 a2
  · rw [hf _ _ (by omega) (by omega)]; exact h3 q a1 a2
  · show RR τ _ (fu (aR A) r L q)
    by_cases e : q = r
    · subst e; rw [fu_same]; exact hr
    · rw [fu_ne e]; exact (h5 q a1 a2).kept (fun k i b1 b2 => hf k i (by omega) (by omega))
  · rw [hf _ _ (by omega) (by omega)]; exact h6
  · rw [hf _ _ (by omega) (by omega)]; exact h7
theorem powL_congr {f g : Int → Int} (h : ∀ m : Int, 0 ≤ m → m < 6 → f m = g m) : ∀ {L : List Lk}, (∀ l ∈ L, okL l) → powL f L = powL g L
  | [], _ => rfl
  | l :: r, hL => by
    have h1 := hL l List.mem_cons_self
    unfold okL at h1
    show l.2.1 * f l.1 + powL f r = l.2.1 * g l.1 + powL g r
    rw [h l.1 h1.1 h1.2.1, powL_congr h (fun q hq => hL q (List.mem_cons_of_mem _ hq))]
theorem cge_congr {f g : Int → Int} {w : Int} (h : ∀ i : Int, 0 ≤ i → i < 4 → f i = g i) : ∀ n : Nat, n ≤ 4 → cge f w n = cge g w n
  | 0, _ => rfl
  | n + 1, hn => by
    show cge f w n + (if w ≤ f (n : Int) then 1 else 0) = cge g w n + (if w ≤ g (n : Int) then 1 else 0)
    rw [cge_congr h n (by omega), h n (by omega) (by omega)]
theorem glr_congr {f g : Int → Int} (h : ∀ i : Int, 0 ≤ i → i < 4 → f i = g i) : ∀ n : Nat, n ≤ 4 → glr f n = glr g n
  | 0, _ => rfl
  | n + 1, hn => by
    show max (glr f n) (cge f (f (n : Int)) 4 * f (n : Int)) = max (glr g n) (cge g (g (n : Int)) 4 * g (n : Int))
    rw [glr_congr h n (by omega), h n (by omega) (by omega), cge_congr h 4 (Nat.le_refl 4)]
theorem gl_congr {f g : Int → Int} (h : ∀ i : Int, 0 ≤ i → i < 4 → f i = g i) : gl f = gl g := glr_congr h 4 (Nat.le_refl 4)
/-- what the bridge bears, if each rope loses so much -/
def bearsA (A : AB) (x : Int) : Int := gl (fun r => powL (aS A) (loseL x (aR A r)))
def inN (A : AB) (m : Int) : Nat → Int
  | 0 => 0
  | n + 1 => inN A m n + lenM m (aR A n)
def inA (A : AB) (m : Int) : Int := inN A m 4
theorem inN_bd {A : AB} {m : Int} (h : WA A) : ∀ n : Nat, n ≤ 4 → 0 ≤ inN A m n ∧ inN A m n ≤ 792 * n
  | 0, _ => by simp [inN]
  | n + 1, hn => by
    have h1 := inN_bd h n (by omega) (m := m)
    have h2 := h.2.2.2.1 n (by omega) (by omega)
    have h3 := lenM_bd (m := m) h2.2
    have h4 := h2.1
    show 0 ≤ inN A m n + lenM m (aR A n) ∧ inN A m n + lenM m (aR A n) ≤ 792 * ((n + 1 : Nat) : Int)
    omega
theorem pow_bd {A : AB} {x r : Int} (h : WA A) (hx : 0 ≤ x) (h1 : 0 ≤ r) (h2 : r < 4) : 0 ≤ powL (aS A) (loseL x (aR A r)) ∧ powL (aS A) (loseL x (aR A r)) ≤ 7128 := by
  have h3 := (h.2.2.2.1 r h1 h2).lose hx
  have h4 := powL_bd h.2.1 h3.2
  have h5 := h3.1
  omega
set_option maxRecDepth 20000 in
theorem c_X0_sin {σ : ab_S} {a : Int} {A : AB} (ha : kd_ a 0 8) (hA : RA σ a A) (hW : WA A) {m : Int} (hm1 : 0 ≤ m) (hm2 : m < 6) {k : Int} (hk1 : 0 ≤ k) (hk2 : k ≤ 9) : C2 YX0_sin 0 σ [rf a, iv m, iv k] (PI fun σ' z => z = sinZ A m k ∧ RA σ' a (sinR A m k) ∧ FA σ σ' a) := by
  obtain ⟨k1, k2, k3, k4, k5, k6⟩ := kd_abbey ha
  have hh := hW.1 m hm1 hm2
  refine C2.of (by decide +kernel) (Nat.le_of_ble_eq_true rfl) ?_
  refine r_aload_n (Y := YX0_sin) dX0_sin_0 rfl ?_
  refine r_getR (Y := YX0_sin) (δz := 1) fl_X0_9 dX0_sin_1 rfl rfl ?_
  refine r_iload_n (Y := YX0_sin) dX0_sin_4 rfl ?_
  refine r_iaV (Y := YX0_sin) (v := aH A m) dX0_sin_5 (hA.1 m hm1 hm2) ?_
  refine r_iload_n (Y := YX0_sin) dX0_sin_6 rfl ?_
  refine r_iadd (Y := YX0_sin) dX0_sin_7 ?_
  refine r_bipush (Y := YX0_sin) dX0_sin_8 ?_
  refine r_icmp_le (Y := YX0_sin) (tgt := 15) dX0_sin_10 (by decide) (fun c10 => ?_) (fun c10 => ?_) 
  · refine r_aload_n (Y := YX0_sin) dX0_sin_15 rfl ?_
    refine r_getR (Y := YX0_sin) (δz := 1) fl_X0_9 dX0_sin_16 rfl rfl ?_
    refine r_iload_n (Y := YX0_sin) dX0_sin_19 rfl ?_
    refine r_dup2 (Y := YX0_sin) dX0_sin_20 ?_
    refine r_iaV (Y := YX0_sin) (v := aH A m) dX0_sin_21 (hA.1 m hm1 hm2) ?_
    refine r_iload_n (Y := YX0_sin) dX0_sin_22 rfl ?_
    refine r_iadd (Y := YX0_sin) dX0_sin_23 ?_
    refine r_iastore (Y := YX0_sin) dX0_sin_24 ?_
    refine r_iconst (Y := YX0_sin) dX0_sin_25 ?_
    refine r_ireturn (Y := YX0_sin) dX0_sin_26 ?_
    exact ⟨(if_neg (by omega)).symm, by rw [show sinR A m k = setH A m (aH A m + k) from if_neg (by omega)]; exact RA_setH hA (by (try delta up); (try delta cpy); (try dsimp only); repeat (first | rw [if_pos (by omega)] | rw [if_neg (by omega)]); try (first | rfl | assumption | omega)) (fun q i _ _ h9 => by (try delta up); (try delta cpy); (try dsimp only); repeat (first | rw [if_pos (by omega)] | rw [if_neg (by omega)]); try (first | rfl | assumption | omega)), fun q i h9 => by (try delta up); (try delta cpy); (try dsimp only); repeat (first | rw [if_pos (by omega)] | rw [if_neg (by omega)]); try (first | rfl | assumption | omega)⟩
  · refine r_iconst (Y := YX0_sin) dX0_sin_13 ?_
    refine r_ireturn (Y := YX0_sin) dX0_sin_14 ?_
    exact ⟨(if_pos (by omega)).symm, by rw [show sinR A m k = A from if_pos (by omega)]; exact hA, FA.rf⟩
set_option maxRecDepth 20000 in
theorem c_X0_pray {σ : ab_S} {a : Int} {A : AB} (ha : kd_ a 0 8) (hA : RA σ a A) (hW : WA A) {m : Int} (hm1 : 0 ≤ m) (hm2 : m < 6) {k : Int} (hk1 : 0 ≤ k) (hk2 : k ≤ 9) : C2 YX0_pray 0 σ [rf a, iv m, iv k] (PI fun σ' z => z = prayZ A m k ∧ RA σ' a (prayR A m k) ∧ FA σ σ' a) := by
  obtain ⟨k1, k2, k3, k4, k5, k6⟩ := kd_abbey ha
  have hh := hW.1 m hm1 hm2
  have hbb := hW.2.2.1 m hm1 hm2
  refine C2.of (by decide +kernel) (Nat.le_of_ble_eq_true rfl) ?_
  refine r_aload_n (Y := YX0_pray) dX0_pray_0 rfl ?_
  refine r_getR (Y := YX0_pray) (δz := 1) fl_X0_9 dX0_pray_1 rfl rfl ?_
  refine r_iload_n (Y := YX0_pray) dX0_pray_4 rfl ?_
  refine r_iaV (Y := YX0_pray) (v := aH A m) dX0_pray_5 (hA.1 m hm1 hm2) ?_
  refine r_iload_n (Y := YX0_pray) dX0_pray_6 rfl ?_
  refine r_icmp_ge (Y := YX0_pray) (tgt := 12) dX0_pray_7 (by decide) (fun c7 => ?_) (fun c7 => ?_) 
  · refine r_aload_n (Y := YX0_pray) dX0_pray_12 rfl ?_
    refine r_getR (Y := YX0_pray) (δz := 3) fl_X0_18 dX0_pray_13 rfl rfl ?_
    refine r_iload_n (Y := YX0_pray) dX0_pray_16 rfl ?_
    refine r_iaV (Y := YX0_pray) (v := aB A m) dX0_pray_17 (hA.2.2.1 m hm1 hm2) ?_
    refine r_iload_n (Y := YX0_pray) dX0_pray_18 rfl ?_
    refine r_iadd (Y := YX0_pray) dX0_pray_19 ?_
    refine r_bipush (Y := YX0_pray) dX0_pray_20 ?_
    refine r_icmp_le (Y := YX0_pray) (tgt := 27) dX0_pray_22 (by decide) (fun c22 => ?_) (fun c22 => ?_) 
    · refine r_aload_n (Y := YX0_pray) dX0_pray_27 rfl ?_
      refine r_getR (Y := YX0_pray) (δz := 1) fl_X0_9 dX0_pray_28 rfl rfl ?_
      refine r_iload_n (Y := YX0_pray) dX0_pray_31 rfl ?_
      refine r_dup2 (Y := YX0_pray) dX0_pray_32 ?_
      refine r_iaV (Y := YX0_pray) (v := aH A m) dX0_pray_33 (hA.1 m hm1 hm2) ?_
      refine r_iload_n (Y := YX0_pray) dX0_pray_34 rfl ?_
      refine r_isub (Y := YX0_pray) dX0_pray_35 ?_
      refine r_iastore (Y := YX0_pray) dX0_pray_36 ?_
      refine r_aload_n (Y := YX0_pray) dX0_pray_37 rfl ?_
      refine r_getR (Y := YX0_pray) (δz := 3) fl_X0_18 dX0_pray_38 rfl rfl ?_
      refine r_iload_n (Y := YX0_pray) dX0_pray_41 rfl ?_
      refine r_dup2 (Y := YX0_pray) dX0_pray_42 ?_
      refine r_iaV (Y := YX0_pray) (v := aB A m) dX0_pray_43 ((by rw [← hA.2.2.1 m hm1 hm2]; exact (by (try delta up); (try delta cpy); (try dsimp only); repeat (first | rw [if_pos (by omega)] | rw [if_neg (by omega)]); try (first | rfl | assumption | omega)))) ?_
      refine r_iload_n (Y := YX0_pray) dX0_pray_44 rfl ?_
      refine r_iadd (Y := YX0_pray) dX0_pray_45 ?_
      refine r_iastore (Y := YX0_pray) dX0_pray_46 ?_
      refine r_iconst (Y := YX0_pray) dX0_pray_47 ?_
      refine r_ireturn (Y := YX0_pray) dX0_pray_48 ?_
      refine ⟨by show 0 = if aH A m < k then 2 else if 99 < aB A m + k then 5 else 0; rw [if_neg (by omega), if_neg (by omega)], ?_, fun q i h9 => by (try delta up); (try delta cpy); (try dsimp only); repeat (first | rw [if_pos (by omega)] | rw [if_neg (by omega)]); try (first | rfl | assumption | omega)⟩
      show RA _ a (if aH A m < k then A else if 99 < aB A m + k then A else setB (setH A m (aH A m - k)) m (aB A m + k))
      rw [if_neg (by omega), if_neg (by omega)]
      exact RA_setB (σ := up σ (a + 1) m (aH A m - k)) (RA_setH hA (by (try delta up); (try delta cpy); (try dsimp only); repeat (first | rw [if_pos (by omega)] | rw [if_neg (by omega)]); try (first | rfl | assumption | omega)) (fun q i _ _ h9 => by (try delta up); (try delta cpy); (try dsimp only); repeat (first | rw [if_pos (by omega)] | rw [if_neg (by omega)]); try (first | rfl | assumption | omega))) (by (try delta up); (try delta cpy); (try dsimp only); repeat (first | rw [if_pos (by omega)] | rw [if_neg (by omega)]); try (first | rfl | assumption | omega)) (fun q i _ _ h9 => by (try delta up); (try delta cpy); (try dsimp only); repeat (first | rw [if_pos (by omega)] | rw [if_neg (by omega)]); try (first | rfl | assumption | omega))
    · refine r_iconst (Y := YX0_pray) dX0_pray_25 ?_
      refine r_ireturn (Y := YX0_pray) dX0_pray_26 ?_
      exact ⟨by show 5 = if aH A m < k then 2 else if 99 < aB A m + k then 5 else 0; rw [if_neg (by omega), if_pos (by omega)], by show RA σ a (if aH A m < k then A else if 99 < aB A m + k then A else setB (setH A m (aH A m - k)) m (aB A m + k)); rw [if_neg (by omega), if_pos (by omega)]; exact hA, FA.rf⟩
  · refine r_iconst (Y := YX0_pray) dX0_pray_10 ?_
    refine r_ireturn (Y := YX0_pray) dX0_pray_11 ?_
    exact ⟨(if_pos (by omega)).symm, by rw [show prayR A m k = A from if_pos (by omega)]; exact hA, FA.rf⟩
set_option maxRecDepth 20000 in
theorem c_X0_weave {σ : ab_S} {a : Int} {A : AB} (ha : kd_ a 0 8) (hA : RA σ a A) (hW : WA A) {m : Int} (hm1 : 0 ≤ m) (hm2 : m < 6) {r : Int} (hr1 : 0 ≤ r) (hr2 : r < 4) : C2 YX0_weave 2 σ [rf a, iv m, iv r] (PI fun σ' z => z = weaveZ A m r ∧ RA σ' a (weaveR A m r) ∧ FA σ σ' a) := by
  obtain ⟨k1, k2, k3, k4, k5, k6⟩ := kd_abbey ha
  have hbb := hW.2.2.1 m hm1 hm2
  have kr := kd_ropes ha hr1 hr2
  have hRr := hA.2.2.2.2.1 r hr1 hr2
  have hLr := hW.2.2.2.1 r hr1 hr2
  have hLr1 := hLr.1
  refine C2.of (by decide +kernel) (Nat.le_of_ble_eq_true rfl) ?_
  refine r_aload_n (Y := YX0_weave) dX0_weave_0 rfl ?_
  refine r_getR (Y := YX0_weave) (δz := 3) fl_X0_18 dX0_weave_1 rfl rfl ?_
  refine r_iload_n (Y := YX0_weave) dX0_weave_4 rfl ?_
  refine r_iaV (Y := YX0_weave) (v := aB A m) dX0_weave_5 (hA.2.2.1 m hm1 hm2) ?_
  refine r_if_ne (Y := YX0_weave) (tgt := 11) dX0_weave_6 (by decide) (fun c6 => ?_) (fun c6 => ?_) 
  · refine r_aload_n (Y := YX0_weave) dX0_weave_11 rfl ?_
    refine r_getR (Y := YX0_weave) (δz := 5) fl_X0_26 dX0_weave_12 rfl rfl ?_
    refine r_iload_n (Y := YX0_weave) dX0_weave_15 rfl ?_
    first | refine r_aaload (Y := YX0_weave) (δz := 2) (sz := 4) dX0_weave_16 tg_12 rfl rfl ?_ | refine r_aaload (Y := YX0_weave) (δz := 1) (sz := 30) dX0_weave_16 tg_13 rfl rfl ?_ | refine r_aaload (Y := YX0_weave) (δz := 1) (sz := 23) dX0_weave_16 tg_14 rfl rfl ?_ | refine r_aaload (Y := YX0_weave) (δz := 1) (sz := 1) dX0_weave_16 tg_15 rfl rfl ?_
    refine r_iV0I (Y := YX0_weave) mv_X0_57 dX0_weave_17 (c_X5_hasRoom kr hRr hLr1) (by assumption) (fun σ17 z17 h17 => ?_)
    obtain ⟨rfl, rfl⟩ := h17
    have hz9 : (if (aR A r).length < 8 then (1 : Int) else 0) = 1 ∧ (aR A r).length < 8 ∨ (if (aR A r).length < 8 then (1 : Int) else 0) = 0 ∧ ¬ (aR A r).length < 8 := by split <;> omega
    generalize (if (aR A r).length < 8 then (1 : Int) else 0) = z9 at hz9 ⊢
    refine r_if_ne (Y := YX0_weave) (tgt := 25) dX0_weave_20 (by decide) (fun c20 => ?_) (fun c20 => ?_) 
    · refine r_aload_n (Y := YX0_weave) dX0_weave_25 rfl ?_
      refine r_getR (Y := YX0_weave) (δz := 5) fl_X0_26 dX0_weave_26 rfl rfl ?_
      refine r_iload_n (Y := YX0_weave) dX0_weave_29 rfl ?_
      first | refine r_aaload (Y := YX0_weave) (δz := 2) (sz := 4) dX0_weave_30 tg_12 rfl rfl ?_ | refine r_aaload (Y := YX0_weave) (δz := 1) (sz := 30) dX0_weave_30 tg_13 rfl rfl ?_ | refine r_aaload (Y := YX0_weave) (δz := 1) (sz := 23) dX0_weave_30 tg_14 rfl rfl ?_ | refine r_aaload (Y := YX0_weave) (δz := 1) (sz := 1) dX0_weave_30 tg_15 rfl rfl ?_
      refine r_iload_n (Y := YX0_weave) dX0_weave_31 rfl ?_
      refine r_aload_n (Y := YX0_weave) dX0_weave_32 rfl ?_
      refine r_getR (Y := YX0_weave) (δz := 3) fl_X0_18 dX0_weave_33 rfl rfl ?_
      refine r_iload_n (Y := YX0_weave) dX0_weave_36 rfl ?_
      refine r_iaV (Y := YX0_weave) (v := aB A m) dX0_weave_37 (hA.2.2.1 m hm1 hm2) ?_
      refine r_aload_n (Y := YX0_weave) dX0_weave_38 rfl ?_
      refine r_getV (Y := YX0_weave) (v := aWk A) (jz := 7) fl_X0_54 dX0_weave_39 (hA.2.2.2.2.2.2) ?_
      refine r_iV3V (Y := YX0_weave) mv_X0_61 dX0_weave_42 (c_X5_add kr hRr (by omega)) (by assumption) (fun σ42 h42 => ?_)
      refine r_aload_n (Y := YX0_weave) dX0_weave_45 rfl ?_
      refine r_getR (Y := YX0_weave) (δz := 3) fl_X0_18 dX0_weave_46 rfl rfl ?_
      refine r_iload_n (Y := YX0_weave) dX0_weave_49 rfl ?_
      refine r_iconst (Y := YX0_weave) dX0_weave_50 ?_
      refine r_iastore (Y := YX0_weave) dX0_weave_51 ?_
      refine r_iconst (Y := YX0_weave) dX0_weave_52 ?_
      refine r_ireturn (Y := YX0_weave) dX0_weave_53 ?_
      obtain ⟨b1, b2⟩ := h42
      refine ⟨by show 0 = if aB A m = 0 then 3 else if 8 ≤ (aR A r).length then 4 else 0; rw [if_neg (by omega), if_neg (by omega)], ?_, fun q i h9 => by rw [← b2 q i (by omega)]; exact (by (try delta up); (try delta cpy); (try dsimp only); repeat (first | rw [if_pos (by omega)] | rw [if_neg (by omega)]); try (first | rfl | assumption | omega))⟩
      show RA _ a (if aB A m = 0 then A else if 8 ≤ (aR A r).length then A else setB (setR A r (aR A r ++ [(m, aB A m, aWk A)])) m 0)
      rw [if_neg (by omega), if_neg (by omega)]
      exact RA_setB (σ := σ42) (RA_setR hA hr1 hr2 b1 (fun q i _ _ h9 => b2 q i h9)) (by (try delta up); (try delta cpy); (try dsimp only); repeat (first | rw [if_pos (by omega)] | rw [if_neg (by omega)]); try (first | rfl | assumption | omega)) (fun q i _ _ h9 => by (try delta up); (try delta cpy); (try dsimp only); repeat (first | rw [if_pos (by omega)] | rw [if_neg (by omega)]); try (first | rfl | assumption | omega))
    · refine r_iconst (Y := YX0_weave) dX0_weave_23 ?_
      refine r_ireturn (Y := YX0_weave) dX0_weave_24 ?_
      exact ⟨by show 4 = if aB A m = 0 then 3 else if 8 ≤ (aR A r).length then 4 else 0; rw [if_neg (by omega), if_pos (by omega)], by show RA _ a (if aB A m = 0 then A else if 8 ≤ (aR A r).length then A else setB (setR A r (aR A r ++ [(m, aB A m, aWk A)])) m 0); rw [if_neg (by omega), if_pos (by omega)]; exact hA, FA.rf⟩
  · refine r_iconst (Y := YX0_weave) dX0_weave_9 ?_
    refine r_ireturn (Y := YX0_weave) dX0_weave_10 ?_
    exact ⟨(if_pos (by omega)).symm, by rw [show weaveR A m r = A from if_pos (by omega)]; exact hA, FA.rf⟩
set_option maxRecDepth 20000 in
theorem c_X0_powerInBasket {σ : ab_S} {a : Int} {A : AB} (ha : kd_ a 0 8) (hA : RA σ a A) (hW : WA A) {m : Int} (hm1 : 0 ≤ m) (hm2 : m < 6) : C2 YX0_powerInBasket 0 σ [rf a, iv m] (PI fun σ' z => σ' = σ ∧ z = aB A m * aS A m) := by
  obtain ⟨k1, k2, k3, k4, k5, k6⟩ := kd_abbey ha
  refine C2.of (by decide +kernel) (Nat.le_of_ble_eq_true rfl) ?_
  refine r_aload_n (Y := YX0_powerInBasket) dX0_powerInBasket_0 rfl ?_
  refine r_getR (Y := YX0_powerInBasket) (δz := 3) fl_X0_18 dX0_powerInBasket_1 rfl rfl ?_
  refine r_iload_n (Y := YX0_powerInBasket) dX0_powerInBasket_4 rfl ?_
  refine r_iaV (Y := YX0_powerInBasket) (v := aB A m) dX0_powerInBasket_5 (hA.2.2.1 m hm1 hm2) ?_
  refine r_aload_n (Y := YX0_powerInBasket) dX0_powerInBasket_6 rfl ?_
  refine r_getR (Y := YX0_powerInBasket) (δz := 2) fl_X0_15 dX0_powerInBasket_7 rfl rfl ?_
  refine r_iload_n (Y := YX0_powerInBasket) dX0_powerInBasket_10 rfl ?_
  refine r_iaV (Y := YX0_powerInBasket) (v := aS A m) dX0_powerInBasket_11 (hA.2.1 m hm1 hm2) ?_
  refine r_imul (Y := YX0_powerInBasket) dX0_powerInBasket_12 ?_
  refine r_ireturn (Y := YX0_powerInBasket) dX0_powerInBasket_13 ?_
  exact ⟨rfl, rfl⟩
set_option maxRecDepth 20000 in
theorem c_X0_inchesOf {σ : ab_S} {a : Int} {A : AB} (ha : kd_ a 0 8) (hA : RA σ a A) (hW : WA A) {m : Int} (hm1 : 0 ≤ m) (hm2 : m < 6) : C2 YX0_inchesOf 1 σ [rf a, iv m] (PI fun σ' z => σ' = σ ∧ z = inA A m) := by
  obtain ⟨k1, k2, k3, k4, k5, k6⟩ := kd_abbey ha
  refine C2.of (by decide +kernel) (Nat.le_of_ble_eq_true rfl) ?_
  refine r_iconst (Y := YX0_inchesOf) dX0_inchesOf_0 ?_
  refine r_istore_n (Y := YX0_inchesOf) dX0_inchesOf_1 ?_
  refine r_iconst (Y := YX0_inchesOf) dX0_inchesOf_2 ?_
  refine r_istore_n (Y := YX0_inchesOf) dX0_inchesOf_3 ?_
  suffices hloop : ∀ (k n : Nat), n + k = 4 → R2 YX0_inchesOf 1 σ 4 [some (rf a), some (iv m), some (iv (inN A m n)), some (iv n)] [] (PI fun σ' z => σ' = σ ∧ z = inA A m) from
    R2.weak (by repeat first | exact trivial | refine And.intro rfl ?_) (hloop 4 0 rfl)
  intro k
  induction k with
  | zero =>
    intro n e1
    have e2 : n = 4 := by omega
    subst e2
    refine r_iload_n (Y := YX0_inchesOf) dX0_inchesOf_4 rfl ?_
    refine r_iconst (Y := YX0_inchesOf) dX0_inchesOf_5 ?_
    refine r_icmp_ge (Y := YX0_inchesOf) (tgt := 28) dX0_inchesOf_6 (by decide) (fun c6 => ?_) (fun c6 => absurd c6 (by omega)) 
    refine r_iload_n (Y := YX0_inchesOf) dX0_inchesOf_28 rfl ?_
    refine r_ireturn (Y := YX0_inchesOf) dX0_inchesOf_29 ?_
    exact ⟨rfl, rfl⟩
  | succ k ih =>
    intro n e1
    have kr := kd_ropes ha (i := n) (by omega) (by omega)
    refine r_iload_n (Y := YX0_inchesOf) dX0_inchesOf_4 rfl ?_
    refine r_iconst (Y := YX0_inchesOf) dX0_inchesOf_5 ?_
    refine r_icmp_ge (Y := YX0_inchesOf) (tgt := 28) dX0_inchesOf_6 (by decide) (fun c6 => absurd c6 (by omega)) (fun c6 => ?_) 
    refine r_iload_n (Y := YX0_inchesOf) dX0_inchesOf_9 rfl ?_
    refine r_aload_n (Y := YX0_inchesOf) dX0_inchesOf_10 rfl ?_
    refine r_getR (Y := YX0_inchesOf) (δz := 5) fl_X0_26 dX0_inchesOf_11 rfl rfl ?_
    refine r_iload_n (Y := YX0_inchesOf) dX0_inchesOf_14 rfl ?_
    first | refine r_aaload (Y := YX0_inchesOf) (δz := 2) (sz := 4) dX0_inchesOf_15 tg_12 rfl rfl ?_ | refine r_aaload (Y := YX0_inchesOf) (δz := 1) (sz := 30) dX0_inchesOf_15 tg_13 rfl rfl ?_ | refine r_aaload (Y := YX0_inchesOf) (δz := 1) (sz := 23) dX0_inchesOf_15 tg_14 rfl rfl ?_ | refine r_aaload (Y := YX0_inchesOf) (δz := 1) (sz := 1) dX0_inchesOf_15 tg_15 rfl rfl ?_
    refine r_iload_n (Y := YX0_inchesOf) dX0_inchesOf_16 rfl ?_
    refine r_iV1I (Y := YX0_inchesOf) mv_X0_102 dX0_inchesOf_17 (c_X5_lengthOf kr (hA.2.2.2.2.1 n (by omega) (by omega)) (by omega) (by omega) (hW.2.2.2.1 n (by omega) (by omega))) (by assumption) (fun σ17 z17 h17 => ?_)
    obtain ⟨rfl, rfl⟩ := h17
    refine r_iadd (Y := YX0_inchesOf) dX0_inchesOf_20 ?_
    refine r_istore_n (Y := YX0_inchesOf) dX0_inchesOf_21 ?_
    refine r_iinc (Y := YX0_inchesOf) dX0_inchesOf_22 rfl ?_
    refine r_goto (Y := YX0_inchesOf) (tgt := 4) dX0_inchesOf_25 (by decide) ?_
    exact R2.weak (by repeat first | exact trivial | refine And.intro rfl ?_) (ih (n + 1) (by omega))
set_option maxRecDepth 20000 in
theorem c_X0_powerOf {σ : ab_S} {a : Int} {A : AB} (ha : kd_ a 0 8) (hA : RA σ a A) (hW : WA A) {m : Int} (hm1 : 0 ≤ m) (hm2 : m < 6) : C2 YX0_powerOf 2 σ [rf a, iv m] (PI fun σ' z => σ' = σ ∧ z = inA A m * aS A m) := by
  obtain ⟨k1, k2, k3, k4, k5, k6⟩ := kd_abbey ha
  refine C2.of (by decide +kernel) (Nat.le_of_ble_eq_true rfl) ?_
  refine r_aload_n (Y := YX0_powerOf) dX0_powerOf_0 rfl ?_
  refine r_iload_n (Y := YX0_powerOf) dX0_powerOf_1 rfl ?_
  refine r_iV1I (Y := YX0_powerOf) mv_X0_105 dX0_powerOf_2 (c_X0_inchesOf ha hA hW hm1 hm2) (by assumption) (fun σ2 z2 h2 => ?_)
  obtain ⟨rfl, rfl⟩ := h2
  refine r_aload_n (Y := YX0_powerOf) dX0_powerOf_5 rfl ?_
  refine r_getR (Y := YX0_powerOf) (δz := 2) fl_X0_15 dX0_powerOf_6 rfl rfl ?_
  refine r_iload_n (Y := YX0_powerOf) dX0_powerOf_9 rfl ?_
  refine r_iaV (Y := YX0_powerOf) (v := aS A m) dX0_powerOf_10 (hA.2.1 m hm1 hm2) ?_
  refine r_imul (Y := YX0_powerOf) dX0_powerOf_11 ?_
  refine r_ireturn (Y := YX0_powerOf) dX0_powerOf_12 ?_
  exact ⟨rfl, rfl⟩
set_option maxRecDepth 20000 in
theorem c_X0_passWeek {σ : ab_S} {a : Int} {A : AB} (ha : kd_ a 0 8) (hA : RA σ a A) (hW : WA A) : C2 YX0_passWeek 3 σ [rf a] (PV fun σ' => RA σ' a (weekA A) ∧ FA σ σ' a) := by
  obtain ⟨k1, k2, k3, k4, k5, k6⟩ := kd_abbey ha
  have hwr := hW.2.2.2.2
  refine C2.of (by decide +kernel) (Nat.le_of_ble_eq_true rfl) ?_
  refine r_iconst (Y := YX0_passWeek) dX0_passWeek_0 ?_
  refine r_istore_n (Y := YX0_passWeek) dX0_passWeek_1 ?_
  suffices hloop : ∀ (k n : Nat) (τ : ab_S), n + k = 4 → RA τ a (lsN (aWr A) A n) → FA σ τ a → R2 YX0_passWeek 3 τ 2 [some (rf a), some (iv n)] [] (PV fun σ' => RA σ' a (weekA A) ∧ FA σ σ' a) from
    R2.weak (by repeat first | exact trivial | refine And.intro rfl ?_) (hloop 4 0 σ rfl hA FA.rf)
  intro k
  induction k with
  | zero =>
    intro n τ e1 hB hF
    have e2 : n = 4 := by omega
    subst e2
    refine r_iload_n (Y := YX0_passWeek) dX0_passWeek_2 rfl ?_
    refine r_iconst (Y := YX0_passWeek) dX0_passWeek_3 ?_
    refine r_icmp_ge (Y := YX0_passWeek) (tgt := 30) dX0_passWeek_4 (by decide) (fun c4 => ?_) (fun c4 => absurd c4 (by omega)) 
    refine r_aload_n (Y := YX0_passWeek) dX0_passWeek_30 rfl ?_
    refine r_dup (Y := YX0_passWeek) dX0_passWeek_31 ?_
    refine r_getV (Y := YX0_passWeek) (v := aWk A) (jz := 7) fl_X0_54 dX0_passWeek_32 ((by rw [hB.2.2.2.2.2.2]; exact lsN_wk 4)) ?_
    refine r_iconst (Y := YX0_passWeek) dX0_passWeek_35 ?_
    refine r_iadd (Y := YX0_passWeek) dX0_passWeek_36 ?_
    refine r_putI (Y := YX0_passWeek) (jz := 7) fp_X0_54 dX0_passWeek_37 ?_
    refine r_return (Y := YX0_passWeek) dX0_passWeek_40 ?_
    exact ⟨RA_setWk hB (by (try delta up); (try delta cpy); (try dsimp only); repeat (first | rw [if_pos (by omega)] | rw [if_neg (by omega)]); try (first | rfl | assumption | omega)) (fun q i _ _ h9 => by (try delta up); (try delta cpy); (try dsimp only); repeat (first | rw [if_pos (by omega)] | rw [if_neg (by omega)]); try (first | rfl | assumption | omega)), fun q i h9 => by rw [← hF q i h9]; exact (by (try delta up); (try delta cpy); (try dsimp only); repeat (first | rw [if_pos (by omega)] | rw [if_neg (by omega)]); try (first | rfl | assumption | omega))⟩
  | succ k ih =>
    intro n τ e1 hB hF
    have kr := kd_ropes ha (i := n) (by omega) (by omega)
    have hWB := WA_lsN hW hwr.1 n (by omega)
    refine r_iload_n (Y := YX0_passWeek) dX0_passWeek_2 rfl ?_
    refine r_iconst (Y := YX0_passWeek) dX0_passWeek_3 ?_
    refine r_icmp_ge (Y := YX0_passWeek) (tgt := 30) dX0_passWeek_4 (by decide) (fun c4 => absurd c4 (by omega)) (fun c4 => ?_) 
    refine r_aload_n (Y := YX0_passWeek) dX0_passWeek_7 rfl ?_
    refine r_getR (Y := YX0_passWeek) (δz := 5) fl_X0_26 dX0_passWeek_8 rfl rfl ?_
    refine r_iload_n (Y := YX0_passWeek) dX0_passWeek_11 rfl ?_
    first | refine r_aaload (Y := YX0_passWeek) (δz := 2) (sz := 4) dX0_passWeek_12 tg_12 rfl rfl ?_ | refine r_aaload (Y := YX0_passWeek) (δz := 1) (sz := 30) dX0_passWeek_12 tg_13 rfl rfl ?_ | refine r_aaload (Y := YX0_passWeek) (δz := 1) (sz := 23) dX0_passWeek_12 tg_14 rfl rfl ?_ | refine r_aaload (Y := YX0_passWeek) (δz := 1) (sz := 1) dX0_passWeek_12 tg_15 rfl rfl ?_
    refine r_aload_n (Y := YX0_passWeek) dX0_passWeek_13 rfl ?_
    refine r_getV (Y := YX0_passWeek) (v := aWr A) (jz := 6) fl_X0_40 dX0_passWeek_14 ((by rw [hB.2.2.2.2.2.1]; exact lsN_wr n)) ?_
    refine r_aload_n (Y := YX0_passWeek) dX0_passWeek_17 rfl ?_
    refine r_getR (Y := YX0_passWeek) (δz := 4) fl_X0_21 dX0_passWeek_18 rfl rfl ?_
    refine r_iV2V (Y := YX0_passWeek) mv_X0_65 dX0_passWeek_21 (c_X5_lose kr k4 (hB.2.2.2.2.1 n (by omega) (by omega)) (hWB.2.2.2.1 n (by omega) (by omega)) hwr.1 (by omega) (by omega)) (by assumption) (fun σ21 h21 => ?_)
    refine r_iinc (Y := YX0_passWeek) dX0_passWeek_24 rfl ?_
    refine r_goto (Y := YX0_passWeek) (tgt := 2) dX0_passWeek_27 (by decide) ?_
    obtain ⟨b1, b2, b3⟩ := h21
    refine R2.weak (by repeat first | exact trivial | refine And.intro rfl ?_) (ih (n + 1) σ21 (by omega) ?_ (fun q i h9 => by rw [b3 q i (by omega) (by omega)]; exact hF q i h9))
    exact RA_lose hB (by omega) (by omega) b1 (fun q h1 h2 => by rw [b2 q h1 h2, hB.2.2.2.1 q h1 h2]) b3
set_option maxRecDepth 20000 in
theorem c_X0_bearsLess {σ : ab_S} {a : Int} {A : AB} (ha : kd_ a 0 8) (hA : RA σ a A) (hW : WA A) {x : Int} (hx1 : 0 ≤ x) (hx2 : x ≤ 1000) : C2 YX0_bearsLess 2 σ [rf a, iv x] (PI fun σ' z => z = bearsA A x ∧ ∀ k i : Int, k ≠ a + 6 → σ' k i = σ k i) := by
  obtain ⟨k1, k2, k3, k4, k5, k6⟩ := kd_abbey ha
  refine C2.of (by decide +kernel) (Nat.le_of_ble_eq_true rfl) ?_
  refine r_iconst (Y := YX0_bearsLess) dX0_bearsLess_0 ?_
  refine r_istore_n (Y := YX0_bearsLess) dX0_bearsLess_1 ?_
  suffices hloop : ∀ (k n : Nat) (τ : ab_S), n + k = 4 → (∀ r : Int, 0 ≤ r → r < n → τ (a + 6) r = powL (aS A) (loseL x (aR A r))) → (∀ k i : Int, k ≠ a + 6 → τ k i = σ k i) → R2 YX0_bearsLess 2 τ 2 [some (rf a), some (iv x), some (iv n)] [] (PI fun σ' z => z = bearsA A x ∧ ∀ k i : Int, k ≠ a + 6 → σ' k i = σ k i) from
    R2.weak (by repeat first | exact trivial | refine And.intro rfl ?_) (hloop 4 0 σ rfl (fun r h1 h2 => by omega) (fun _ _ _ => rfl))
  intro k
  induction k with
  | zero =>
    intro n τ e1 e3 hF
    have e2 : n = 4 := by omega
    subst e2
    have hpb : ∀ i : Int, 0 ≤ i → i < 4 → 0 ≤ τ (a + 6) i ∧ τ (a + 6) i ≤ 100000 := fun i h1 h2 => by
      rw [e3 i h1 (by omega)]
      have := pow_bd hW hx1 h1 h2
      omega
    refine r_iload_n (Y := YX0_bearsLess) dX0_bearsLess_2 rfl ?_
    refine r_iconst (Y := YX0_bearsLess) dX0_bearsLess_3 ?_
    refine r_icmp_ge (Y := YX0_bearsLess) (tgt := 33) dX0_bearsLess_4 (by decide) (fun c4 => ?_) (fun c4 => absurd c4 (by omega)) 
    refine r_aload_n (Y := YX0_bearsLess) dX0_bearsLess_33 rfl ?_
    refine r_getR (Y := YX0_bearsLess) (δz := 6) fl_X0_30 dX0_bearsLess_34 rfl rfl ?_
    refine r_iN1I (Y := YX0_bearsLess) mn_X0_89 dX0_bearsLess_37 (c_X8_greatestLoad _ _ k6 hpb) (fun σ37 z37 h37 => ?_)
    obtain ⟨rfl, rfl⟩ := h37
    refine r_ireturn (Y := YX0_bearsLess) dX0_bearsLess_40 ?_
    exact ⟨gl_congr (fun i h1 h2 => e3 i h1 (by omega)), hF⟩
  | succ k ih =>
    intro n τ e1 e3 hF
    have kr := kd_ropes ha (i := n) (by omega) (by omega)
    have hAt : RA τ a A := hA.kept (fun q i _ _ h9 => hF q i h9)
    have hWn := hW.2.2.2.1 n (by omega) (by omega)
    refine r_iload_n (Y := YX0_bearsLess) dX0_bearsLess_2 rfl ?_
    refine r_iconst (Y := YX0_bearsLess) dX0_bearsLess_3 ?_
    refine r_icmp_ge (Y := YX0_bearsLess) (tgt := 33) dX0_bearsLess_4 (by decide) (fun c4 => absurd c4 (by omega)) (fun c4 => ?_) 
    refine r_aload_n (Y := YX0_bearsLess) dX0_bearsLess_7 rfl ?_
    refine r_getR (Y := YX0_bearsLess) (δz := 6) fl_X0_30 dX0_bearsLess_8 rfl rfl ?_
    refine r_iload_n (Y := YX0_bearsLess) dX0_bearsLess_11 rfl ?_
    refine r_aload_n (Y := YX0_bearsLess) dX0_bearsLess_12 rfl ?_
    refine r_getR (Y := YX0_bearsLess) (δz := 5) fl_X0_26 dX0_bearsLess_13 rfl rfl ?_
    refine r_iload_n (Y := YX0_bearsLess) dX0_bearsLess_16 rfl ?_
    first | refine r_aaload (Y := YX0_bearsLess) (δz := 2) (sz := 4) dX0_bearsLess_17 tg_12 rfl rfl ?_ | refine r_aaload (Y := YX0_bearsLess) (δz := 1) (sz := 30) dX0_bearsLess_17 tg_13 rfl rfl ?_ | refine r_aaload (Y := YX0_bearsLess) (δz := 1) (sz := 23) dX0_bearsLess_17 tg_14 rfl rfl ?_ | refine r_aaload (Y := YX0_bearsLess) (δz := 1) (sz := 1) dX0_bearsLess_17 tg_15 rfl rfl ?_
    refine r_iload_n (Y := YX0_bearsLess) dX0_bearsLess_18 rfl ?_
    refine r_aload_n (Y := YX0_bearsLess) dX0_bearsLess_19 rfl ?_
    refine r_getR (Y := YX0_bearsLess) (δz := 2) fl_X0_15 dX0_bearsLess_20 rfl rfl ?_
    refine r_iV2I (Y := YX0_bearsLess) mv_X0_85 dX0_bearsLess_23 (c_X5_powerLess kr (hAt.2.2.2.2.1 n (by omega) (by omega)) k2 hWn hx1 hx2) (by assumption) (fun σ23 z23 h23 => ?_)
    obtain ⟨rfl, rfl⟩ := h23
    refine r_iastore (Y := YX0_bearsLess) dX0_bearsLess_26 ?_
    refine r_iinc (Y := YX0_bearsLess) dX0_bearsLess_27 rfl ?_
    refine r_goto (Y := YX0_bearsLess) (tgt := 2) dX0_bearsLess_30 (by decide) ?_
    refine R2.weak (by repeat first | exact trivial | refine And.intro rfl ?_) (ih (n + 1) _ (by omega) (fun r h1 h2 => ?_) (fun q i h9 => by rw [← hF q i h9]; exact (by (try delta up); (try delta cpy); (try dsimp only); repeat (first | rw [if_pos (by omega)] | rw [if_neg (by omega)]); try (first | rfl | assumption | omega))))
    by_cases e : r = n
    · subst e
      rw [up_same]
      exact powL_congr hAt.2.1 (hWn.lose hx1).2
    · rw [up_ne (by omega)]
      exact e3 r h1 (by omega)
set_option maxRecDepth 20000 in
theorem c_X0_become {σ : ab_S} {a b : Int} {A : AB} (ha : kd_ a 0 8) (hb : kd_ b 0 8) (hA : RA σ b A) (hW : WA A) (hap : b + 22 < a ∨ a + 22 < b) : C2 YX0_become 2 σ [rf a, rf b] (PV fun σ' => RA σ' a A ∧ FA σ σ' a) := by
  obtain ⟨k1, k2, k3, k4, k5, k6⟩ := kd_abbey ha
  obtain ⟨j1, j2, j3, j4, j5, j6⟩ := kd_abbey hb
  refine C2.of (by decide +kernel) (Nat.le_of_ble_eq_true rfl) ?_
  refine r_aload_n (Y := YX0_become) dX0_become_0 rfl ?_
  refine r_getR (Y := YX0_become) (δz := 1) fl_X0_9 dX0_become_1 rfl rfl ?_
  refine r_iconst (Y := YX0_become) dX0_become_4 ?_
  refine r_aload_n (Y := YX0_become) dX0_become_5 rfl ?_
  refine r_getR (Y := YX0_become) (δz := 1) fl_X0_9 dX0_become_6 rfl rfl ?_
  refine r_iconst (Y := YX0_become) dX0_become_9 ?_
  refine r_bipush (Y := YX0_become) dX0_become_10 ?_
  refine r_copy (Y := YX0_become) wa_X0_44 dX0_become_12 (by assumption) (by assumption) ?_
  refine r_aload_n (Y := YX0_become) dX0_become_15 rfl ?_
  refine r_getR (Y := YX0_become) (δz := 2) fl_X0_15 dX0_become_16 rfl rfl ?_
  refine r_iconst (Y := YX0_become) dX0_become_19 ?_
  refine r_aload_n (Y := YX0_become) dX0_become_20 rfl ?_
  refine r_getR (Y := YX0_become) (δz := 2) fl_X0_15 dX0_become_21 rfl rfl ?_
  refine r_iconst (Y := YX0_become) dX0_become_24 ?_
  refine r_bipush (Y := YX0_become) dX0_become_25 ?_
  refine r_copy (Y := YX0_become) wa_X0_44 dX0_become_27 (by assumption) (by assumption) ?_
  refine r_aload_n (Y := YX0_become) dX0_become_30 rfl ?_
  refine r_getR (Y := YX0_become) (δz := 3) fl_X0_18 dX0_become_31 rfl rfl ?_
  refine r_iconst (Y := YX0_become) dX0_become_34 ?_
  refine r_aload_n (Y := YX0_become) dX0_become_35 rfl ?_
  refine r_getR (Y := YX0_become) (δz := 3) fl_X0_18 dX0_become_36 rfl rfl ?_
  refine r_iconst (Y := YX0_become) dX0_become_39 ?_
  refine r_bipush (Y := YX0_become) dX0_become_40 ?_
  refine r_copy (Y := YX0_become) wa_X0_44 dX0_become_42 (by assumption) (by assumption) ?_
  refine r_aload_n (Y := YX0_become) dX0_become_45 rfl ?_
  refine r_getR (Y := YX0_become) (δz := 4) fl_X0_21 dX0_become_46 rfl rfl ?_
  refine r_iconst (Y := YX0_become) dX0_become_49 ?_
  refine r_aload_n (Y := YX0_become) dX0_become_50 rfl ?_
  refine r_getR (Y := YX0_become) (δz := 4) fl_X0_21 dX0_become_51 rfl rfl ?_
  refine r_iconst (Y := YX0_become) dX0_become_54 ?_
  refine r_bipush (Y := YX0_become) dX0_become_55 ?_
  refine r_copy (Y := YX0_become) wa_X0_44 dX0_become_57 (by assumption) (by assumption) ?_
  refine r_iconst (Y := YX0_become) dX0_become_60 ?_
  refine r_istore_n (Y := YX0_become) dX0_become_61 ?_
  suffices hloop : ∀ (k n : Nat) (τ : ab_S), n + k = 4 → (∀ m : Int, 0 ≤ m → m < 6 → τ (a + 1) m = aH A m ∧ τ (a + 2) m = aS A m ∧ τ (a + 3) m = aB A m ∧ τ (a + 4) m = aW A m) → (∀ r : Int, 0 ≤ r → r < n → RR τ (a + 5 + (2 + 4 * r)) (aR A r)) → FA σ τ a → R2 YX0_become 2 τ 62 [some (rf a), some (rf b), some (iv n)] [] (PV fun σ' => RA σ' a A ∧ FA σ σ' a) from by
    refine R2.weak (by repeat first | exact trivial | refine And.intro rfl ?_) (hloop 4 0 _ rfl (fun m h1 h2 => ?_) (fun r h1 h2 => by omega) (fun q i h9 => by (try delta up); (try delta cpy); (try dsimp only); repeat (first | rw [if_pos (by omega)] | rw [if_neg (by omega)]); try (first | rfl | assumption | omega)))
    have e : m = 0 + (m - 0) := by omega
    rw [← hA.1 m h1 h2, ← hA.2.1 m h1 h2, ← hA.2.2.1 m h1 h2, ← hA.2.2.2.1 m h1 h2]
    refine ⟨?_, ?_, ?_, ?_⟩ <;> (conv => rhs; rw [e])
    · exact by (try delta up); (try delta cpy); (try dsimp only); repeat (first | rw [if_pos (by omega)] | rw [if_neg (by omega)]); try (first | rfl | assumption | omega)
    · exact by (try delta up); (try delta cpy); (try dsimp only); repeat (first | rw [if_pos (by omega)] | rw [if_neg (by omega)]); try (first | rfl | assumption | omega)
    · exact by (try delta up); (try delta cpy); (try dsimp only); repeat (first | rw [if_pos (by omega)] | rw [if_neg (by omega)]); try (first | rfl | assumption | omega)
    · exact by (try delta up); (try delta cpy); (try dsimp only); repeat (first | rw [if_pos (by omega)] | rw [if_neg (by omega)]); try (first | rfl | assumption | omega)
  intro k
  induction k with
  | zero =>
    intro n τ e1 e3 e4 hF
    have e2 : n = 4 := by omega
    subst e2
    have hAt : RA τ b A := hA.kept (fun q i _ _ _ => hF q i (by omega))
    refine r_iload_n (Y := YX0_become) dX0_become_62 rfl ?_
    refine r_iconst (Y := YX0_become) dX0_become_63 ?_
    refine r_icmp_ge (Y := YX0_become) (tgt := 88) dX0_become_64 (by decide) (fun c64 => ?_) (fun c64 => absurd c64 (by omega)) 
    refine r_aload_n (Y := YX0_become) dX0_become_88 rfl ?_
    refine r_aload_n (Y := YX0_become) dX0_become_89 rfl ?_
    refine r_getV (Y := YX0_become) (v := aWr A) (jz := 6) fl_X0_40 dX0_become_90 (hAt.2.2.2.2.2.1) ?_
    refine r_putI (Y := YX0_become) (jz := 6) fp_X0_40 dX0_become_93 ?_
    refine r_aload_n (Y := YX0_become) dX0_become_96 rfl ?_
    refine r_aload_n (Y := YX0_become) dX0_become_97 rfl ?_
    refine r_getV (Y := YX0_become) (v := aWk A) (jz := 7) fl_X0_54 dX0_become_98 ((by rw [← hAt.2.2.2.2.2.2]; exact (by (try delta up); (try delta cpy); (try dsimp only); repeat (first | rw [if_pos (by omega)] | rw [if_neg (by omega)]); try (first | rfl | assumption | omega)))) ?_
    refine r_putI (Y := YX0_become) (jz := 7) fp_X0_54 dX0_become_101 ?_
    refine r_return (Y := YX0_become) dX0_become_104 ?_
    refine ⟨⟨fun m h1 h2 => ?_, fun m h1 h2 => ?_, fun m h1 h2 => ?_, fun m h1 h2 => ?_, fun r h1 h2 => ?_, by (try delta up); (try delta cpy); (try dsimp only); repeat (first | rw [if_pos (by omega)] | rw [if_neg (by omega)]); try (first | rfl | assumption | omega), by (try delta up); (try delta cpy); (try dsimp only); repeat (first | rw [if_pos (by omega)] | rw [if_neg (by omega)]); try (first | rfl | assumption | omega)⟩, fun q i h9 => by rw [← hF q i h9]; exact (by (try delta up); (try delta cpy); (try dsimp only); repeat (first | rw [if_pos (by omega)] | rw [if_neg (by omega)]); try (first | rfl | assumption | omega))⟩
    · rw [← (e3 m h1 h2).1]; exact (by (try delta up); (try delta cpy); (try dsimp only); repeat (first | rw [if_pos (by omega)] | rw [if_neg (by omega)]); try (first | rfl | assumption | omega))
    · rw [← (e3 m h1 h2).2.1]; exact (by (try delta up); (try delta cpy); (try dsimp only); repeat (first | rw [if_pos (by omega)] | rw [if_neg (by omega)]); try (first | rfl | assumption | omega))
    · rw [← (e3 m h1 h2).2.2.1]; exact (by (try delta up); (try delta cpy); (try dsimp only); repeat (first | rw [if_pos (by omega)] | rw [if_neg (by omega)]); try (first | rfl | assumption | omega))
    · rw [← (e3 m h1 h2).2.2.2]; exact (by (try delta up); (try delta cpy); (try dsimp only); repeat (first | rw [if_pos (by omega)] | rw [if_neg (by omega)]); try (first | rfl | assumption | omega))
    · exact (e4 r h1 (by omega)).kept (fun q i b1 b2 => by (try delta up); (try delta cpy); (try dsimp only); repeat (first | rw [if_pos (by omega)] | rw [if_neg (by omega)]); try (first | rfl | assumption | omega))
  | succ k ih =>
    intro n τ e1 e3 e4 hF
    have hAt : RA τ b A := hA.kept (fun q i _ _ _ => hF q i (by omega))
    have kr := kd_ropes ha (i := n) (by omega) (by omega)
    have jr := kd_ropes hb (i := n) (by omega) (by omega)
    have hWn := (hW.2.2.2.1 n (by omega) (by omega)).1
    refine r_iload_n (Y := YX0_become) dX0_become_62 rfl ?_
    refine r_iconst (Y := YX0_become) dX0_become_63 ?_
    refine r_icmp_ge (Y := YX0_become) (tgt := 88) dX0_become_64 (by decide) (fun c64 => absurd c64 (by omega)) (fun c64 => ?_) 
    refine r_aload_n (Y := YX0_become) dX0_become_67 rfl ?_
    refine r_getR (Y := YX0_become) (δz := 5) fl_X0_26 dX0_become_68 rfl rfl ?_
    refine r_iload_n (Y := YX0_become) dX0_become_71 rfl ?_
    first | refine r_aaload (Y := YX0_become) (δz := 2) (sz := 4) dX0_become_72 tg_12 rfl rfl ?_ | refine r_aaload (Y := YX0_become) (δz := 1) (sz := 30) dX0_become_72 tg_13 rfl rfl ?_ | refine r_aaload (Y := YX0_become) (δz := 1) (sz := 23) dX0_become_72 tg_14 rfl rfl ?_ | refine r_aaload (Y := YX0_become) (δz := 1) (sz := 1) dX0_become_72 tg_15 rfl rfl ?_
    refine r_aload_n (Y := YX0_become) dX0_become_73 rfl ?_
    refine r_getR (Y := YX0_become) (δz := 5) fl_X0_26 dX0_become_74 rfl rfl ?_
    refine r_iload_n (Y := YX0_become) dX0_become_77 rfl ?_
    first | refine r_aaload (Y := YX0_become) (δz := 2) (sz := 4) dX0_become_78 tg_12 rfl rfl ?_ | refine r_aaload (Y := YX0_become) (δz := 1) (sz := 30) dX0_become_78 tg_13 rfl rfl ?_ | refine r_aaload (Y := YX0_become) (δz := 1) (sz := 23) dX0_become_78 tg_14 rfl rfl ?_ | refine r_aaload (Y := YX0_become) (δz := 1) (sz := 1) dX0_become_78 tg_15 rfl rfl ?_
    refine r_iV1V (Y := YX0_become) mv_X0_50 dX0_become_79 (c_X5_become kr jr (hAt.2.2.2.2.1 n (by omega) (by omega)) hWn (by omega)) (by assumption) (fun σ79 h79 => ?_)
    refine r_iinc (Y := YX0_become) dX0_become_82 rfl ?_
    refine r_goto (Y := YX0_become) (tgt := 62) dX0_become_85 (by decide) ?_
    obtain ⟨b1, b2⟩ := h79
    refine R2.weak (by repeat first | exact trivial | refine And.intro rfl ?_) (ih (n + 1) σ79 (by omega) (fun m h1 h2 => ?_) (fun r h1 h2 => ?_) (fun q i h9 => by rw [b2 q i (by omega)]; exact hF q i h9))
    · rw [b2 _ _ (by omega), b2 _ _ (by omega), b2 _ _ (by omega), b2 _ _ (by omega)]; exact e3 m h1 h2
    · by_cases e : r = n
      · subst e; exact b1
      · exact (e4 r h1 (by omega)).kept (fun q i c1 c2 => b2 q i (by omega))
