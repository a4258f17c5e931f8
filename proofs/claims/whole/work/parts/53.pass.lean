/-! the model whole: images -/
def loc (p : Nat) : Nat × Nat := if p < 4 then (0, if p = 0 then 8 else if p = 1 then 9 else if p = 2 then 12 else 15) else if p < 52 then (if (p - 4) % 8 < 4 then 1 + (p - 4) % 8 else 5 + (p - 4) % 8, (p - 4) / 8) else if p < 148 then (5 + (p - 52) % 3, (p - 52) / 3) else (8, p - 148)
theorem loc_ok : ∀ q : Nat, q < 152 → (loc q).1 ≤ 12 ∧ ((loc q).1 = 0 → (loc q).2 ≤ 15) := by decide +kernel
def locB (q p : Nat) : Bool := decide (q = p) || !(decide ((loc q).1 = (loc p).1) && decide ((loc q).2 = (loc p).2))
theorem loc_all : ∀ q : Nat, q < 152 → ∀ p : Nat, p < 152 → locB q p = true := by decide +kernel
theorem loc_ne {q p : Nat} (hq : q < 152) (hp : p < 152) (hne : q ≠ p) : ¬ ((loc q).1 = (loc p).1 ∧ (loc q).2 = (loc p).2) := by
  intro h
  have h1 := loc_all q hq p hp
  unfold locB at h1
  rw [decide_eq_false hne, decide_eq_true h.1, decide_eq_true h.2] at h1
  cases h1
theorem loc_a {j t : Nat} (hj : j < 6) (ht : t < 8) : loc (4 + 8 * j + t) = (if t < 4 then 1 + t else 5 + t, j) := by
  unfold loc
  rw [if_neg (by omega), if_pos (by omega), show (4 + 8 * j + t - 4) % 8 = t by omega, show (4 + 8 * j + t - 4) / 8 = j by omega]
theorem loc_b {k t : Nat} (hk : k < 32) (ht : t < 3) : loc (52 + 3 * k + t) = (5 + t, k) := by
  unfold loc
  rw [if_neg (by omega), if_neg (by omega), if_pos (by omega), show (52 + 3 * k + t - 52) % 3 = t by omega, show (52 + 3 * k + t - 52) / 3 = k by omega]
theorem loc_c {r : Nat} : loc (148 + r) = (8, r) := by
  unfold loc
  rw [if_neg (by omega), if_neg (by omega), if_neg (by omega), show 148 + r - 148 = r by omega]
def lv_ (σ : ab_S) (m : Int) (q : Nat) : Int := σ (m + (loc q).1) (loc q).2
def pv (σ : ab_S) (m b f : Int) (q : Nat) : Int := if f = 1 then lv_ σ m q else σ (m + 25) (b + q)
def PS (σ τ : ab_S) (m b f : Int) (p : Nat) : Prop := (∀ q : Nat, q < 152 → (q < p → lv_ τ m q = pv σ m b f q ∧ τ (m + 25) (b + q) = pv σ m b f q) ∧ (p ≤ q → lv_ τ m q = lv_ σ m q ∧ τ (m + 25) (b + q) = σ (m + 25) (b + q))) ∧ τ m 35 = b + p ∧ τ m 36 = f ∧ ∀ k i : Int, (∀ q : Nat, q < 152 → ¬ (k = m + (loc q).1 ∧ i = (loc q).2) ∧ ¬ (k = m + 25 ∧ i = b + q)) → ¬ (k = m ∧ i = 35) → τ k i = σ k i
theorem PS.rd {σ τ : ab_S} {m b f c i : Int} {p : Nat} (h : PS σ τ m b f p) (hp : p < 152) (hc : c = m + (loc p).1) (hi : i = (loc p).2) : τ c i = σ c i := by
  subst hc
  subst hi
  exact ((h.1 p hp).2 (Nat.le_refl p)).1
theorem PS.step {σ τ : ab_S} {m b f c i z : Int} {p p' : Nat} (h : PS σ τ m b f p) (hp : p < 152) (hp' : p' = p + 1) (hc : c = m + (loc p).1) (hi : i = (loc p).2) (hz : z = if f = 1 then σ c i else σ (m + 25) (b + p)) : PS σ (up (up (up τ (m + 25) (b + p) z) m 35 (b + p + 1)) c i z) m b f p' := by
  subst hp'
  subst hc
  subst hi
  have hz : z = pv σ m b f p := hz
  have hlp := loc_ok p hp
  refine ⟨fun q hq => ?_, ?_, ?_, fun k i h1 h2 => ?_⟩
  · have hlq := loc_ok q hq
    have h9 := h.1 q hq
    by_cases e : q = p
    · subst e
      refine ⟨fun _ => ?_, fun hx => by omega⟩
      rw [← hz]
      refine ⟨up_same _ _ _ _, ?_⟩
      rw [up_ne (by omega), up_ne (by omega)]
      exact up_same _ _ _ _
    · have hn := loc_ne hq hp e
      have e1 : lv_ (up (up (up τ (m + 25) (b + p) z) m 35 (b + p + 1)) (m + (loc p).1) (loc p).2 z) m q = lv_ τ m q := by
        unfold lv_
        rw [up_ne (by omega), up_ne (by omega), up_ne (by omega)]
      have e2 : up (up (up τ (m + 25) (b + p) z) m 35 (b + p + 1)) (m + (loc p).1) (loc p).2 z (m + 25) (b + q) = τ (m + 25) (b + q) := by
        rw [up_ne (by omega), up_ne (by omega), up_ne (by omega)]
      rw [e1, e2]
      exact ⟨fun hx => h9.1 (by omega), fun hx => h9.2 (by omega)⟩
  · rw [up_ne (by omega), up_same]
    omega
  · rw [up_ne (by omega), up_ne (by omega), up_ne (by omega)]
    exact h.2.2.1
  · have h3 := h1 p hp
    rw [up_ne (by omega), up_ne (by omega), up_ne (by omega)]
    exact h.2.2.2 k i h1 h2
set_option maxRecDepth 20000 in
theorem c_X9_pass {σ : ab_S} {m : Int} (hm : kd_ m 9 37) {v a f w : Int} (h35 : σ m 35 = a) (h36 : σ m 36 = f) (hf : f = 0 ∨ f = 1) (ha1 : 0 ≤ a) (ha2 : a < 360) (hk : σ (m + 25) a = w) : C2 YX9_pass 0 σ [rf m, iv v] (PI fun σ' z => (z = if f = 1 then v else w) ∧ σ' = up (up σ (m + 25) a z) m 35 (a + 1)) := by
  obtain ⟨k1, k2, k3, k4, k5, k6, k7, k8, k9, k10, k11, k12, k13, k14, k15, k16, k17, k18, k19, k20, k21, k22, k23, k24, k25, k26⟩ := kd_model hm
  refine C2.of (by decide +kernel) (Nat.le_of_ble_eq_true rfl) ?_
  refine r_aload_n (Y := YX9_pass) dX9_pass_0 rfl ?_
  refine r_getV (Y := YX9_pass) (v := f) (jz := 36) fl_X9_262 dX9_pass_1 (h36) ?_
  refine r_if_eq (Y := YX9_pass) (tgt := 11) dX9_pass_4 (by decide) (fun c4 => ?_) (fun c4 => ?_) 
  · refine r_aload_n (Y := YX9_pass) dX9_pass_11 rfl ?_
    refine r_getR (Y := YX9_pass) (δz := 25) fl_X9_82 dX9_pass_12 rfl rfl ?_
    refine r_aload_n (Y := YX9_pass) dX9_pass_15 rfl ?_
    refine r_getV (Y := YX9_pass) (v := a) (jz := 35) fl_X9_266 dX9_pass_16 (h35) ?_
    refine r_iaV (Y := YX9_pass) (v := w) dX9_pass_19 (hk) ?_
    refine r_istore_n (Y := YX9_pass) dX9_pass_20 ?_
    refine r_aload_n (Y := YX9_pass) dX9_pass_21 rfl ?_
    refine r_getR (Y := YX9_pass) (δz := 25) fl_X9_82 dX9_pass_22 rfl rfl ?_
    refine r_aload_n (Y := YX9_pass) dX9_pass_25 rfl ?_
    refine r_getV (Y := YX9_pass) (v := a) (jz := 35) fl_X9_266 dX9_pass_26 (h35) ?_
    refine r_iload_n (Y := YX9_pass) dX9_pass_29 rfl ?_
    refine r_iastore (Y := YX9_pass) dX9_pass_30 ?_
    refine r_aload_n (Y := YX9_pass) dX9_pass_31 rfl ?_
    refine r_dup (Y := YX9_pass) dX9_pass_32 ?_
    refine r_getV (Y := YX9_pass) (v := a) (jz := 35) fl_X9_266 dX9_pass_33 ((by rw [← h35]; exact (by (try delta up); (try delta cpy); (try dsimp only); repeat (first | rw [if_pos (by omega)] | rw [if_neg (by omega)]); try (first | rfl | assumption | omega)))) ?_
    refine r_iconst (Y := YX9_pass) dX9_pass_36 ?_
    refine r_iadd (Y := YX9_pass) dX9_pass_37 ?_
    refine r_putI (Y := YX9_pass) (jz := 35) fp_X9_266 dX9_pass_38 ?_
    refine r_iload_n (Y := YX9_pass) dX9_pass_41 rfl ?_
    refine r_ireturn (Y := YX9_pass) dX9_pass_42 ?_
    first
      | exact ⟨by rw [if_neg (by omega)], rfl⟩
      | exact ⟨by rw [if_pos (by omega)], rfl⟩
  · refine r_iload_n (Y := YX9_pass) dX9_pass_7 rfl ?_
    refine r_goto (Y := YX9_pass) (tgt := 20) dX9_pass_8 (by decide) ?_
    refine r_istore_n (Y := YX9_pass) dX9_pass_20 ?_
    refine r_aload_n (Y := YX9_pass) dX9_pass_21 rfl ?_
    refine r_getR (Y := YX9_pass) (δz := 25) fl_X9_82 dX9_pass_22 rfl rfl ?_
    refine r_aload_n (Y := YX9_pass) dX9_pass_25 rfl ?_
    refine r_getV (Y := YX9_pass) (v := a) (jz := 35) fl_X9_266 dX9_pass_26 (h35) ?_
    refine r_iload_n (Y := YX9_pass) dX9_pass_29 rfl ?_
    refine r_iastore (Y := YX9_pass) dX9_pass_30 ?_
    refine r_aload_n (Y := YX9_pass) dX9_pass_31 rfl ?_
    refine r_dup (Y := YX9_pass) dX9_pass_32 ?_
    refine r_getV (Y := YX9_pass) (v := a) (jz := 35) fl_X9_266 dX9_pass_33 ((by rw [← h35]; exact (by (try delta up); (try delta cpy); (try dsimp only); repeat (first | rw [if_pos (by omega)] | rw [if_neg (by omega)]); try (first | rfl | assumption | omega)))) ?_
    refine r_iconst (Y := YX9_pass) dX9_pass_36 ?_
    refine r_iadd (Y := YX9_pass) dX9_pass_37 ?_
    refine r_putI (Y := YX9_pass) (jz := 35) fp_X9_266 dX9_pass_38 ?_
    refine r_iload_n (Y := YX9_pass) dX9_pass_41 rfl ?_
    refine r_ireturn (Y := YX9_pass) dX9_pass_42 ?_
    first
      | exact ⟨by rw [if_neg (by omega)], rfl⟩
      | exact ⟨by rw [if_pos (by omega)], rfl⟩
set_option maxRecDepth 20000 in
theorem c_X9_passAll {σ : ab_S} {m : Int} (hm : kd_ m 9 37) {b f : Int} (h35 : σ m 35 = b) (h36 : σ m 36 = f) (hf : f = 0 ∨ f = 1) (hb1 : 0 ≤ b) (hb2 : b ≤ 180) : C2 YX9_passAll 1 σ [rf m] (PV fun σ' => PS σ σ' m b f 152) := by
  obtain ⟨k1, k2, k3, k4, k5, k6, k7, k8, k9, k10, k11, k12, k13, k14, k15, k16, k17, k18, k19, k20, k21, k22, k23, k24, k25, k26⟩ := kd_model hm
  have p0 : PS σ σ m b f 0 := ⟨fun q _ => ⟨fun hx => by omega, fun _ => ⟨rfl, rfl⟩⟩, by rw [h35]; show b = b + 0; omega, h36, fun _ _ _ _ => rfl⟩
  refine C2.of (by decide +kernel) (Nat.le_of_ble_eq_true rfl) ?_
  refine r_aload_n (Y := YX9_passAll) dX9_passAll_0 rfl ?_
  refine r_aload_n (Y := YX9_passAll) dX9_passAll_1 rfl ?_
  refine r_aload_n (Y := YX9_passAll) dX9_passAll_2 rfl ?_
  refine r_getV (Y := YX9_passAll) (v := σ m 8) (jz := 8) fl_X9_89 dX9_passAll_3 (p0.rd (p := (0)) (by omega) (by show m = m + 0; omega) (rfl)) ?_
  refine r_iV1I (Y := YX9_passAll) mv_X9_269 dX9_passAll_6 (c_X9_pass hm (a := b + ((0) : Nat)) (f := f) p0.2.1 p0.2.2.1 hf (by omega) (by omega) ((p0.1 (0) (by omega)).2 (Nat.le_refl _)).2) (by assumption) (fun σ6 z6 h6 => ?_)
  obtain ⟨hz6, rfl⟩ := h6
  refine r_putI (Y := YX9_passAll) (jz := 8) fp_X9_89 dX9_passAll_9 ?_
  have p0_1 := p0.step (p := (0)) (p' := (1)) (z := z6) (by omega) (by omega) (c := m) (i := 8) (by show m = m + 0; omega) (rfl) hz6
  generalize up (up (up σ (m + 25) (b + ((0) : Nat)) z6) m 35 (b + ((0) : Nat) + 1)) m 8 z6 = τ_p0_1 at p0_1 ⊢
  refine r_aload_n (Y := YX9_passAll) dX9_passAll_12 rfl ?_
  refine r_aload_n (Y := YX9_passAll) dX9_passAll_13 rfl ?_
  refine r_aload_n (Y := YX9_passAll) dX9_passAll_14 rfl ?_
  refine r_getV (Y := YX9_passAll) (v := σ m 9) (jz := 9) fl_X9_101 dX9_passAll_15 (p0_1.rd (p := (1)) (by omega) (by show m = m + 0; omega) (rfl)) ?_
  refine r_iV1I (Y := YX9_passAll) mv_X9_269 dX9_passAll_18 (c_X9_pass hm (a := b + ((1) : Nat)) (f := f) p0_1.2.1 p0_1.2.2.1 hf (by omega) (by omega) ((p0_1.1 (1) (by omega)).2 (Nat.le_refl _)).2) (by assumption) (fun σ18 z18 h18 => ?_)
  obtain ⟨hz18, rfl⟩ := h18
  refine r_putI (Y := YX9_passAll) (jz := 9) fp_X9_101 dX9_passAll_21 ?_
  have p0_2 := p0_1.step (p := (1)) (p' := (2)) (z := z18) (by omega) (by omega) (c := m) (i := 9) (by show m = m + 0; omega) (rfl) hz18
  generalize up (up (up τ_p0_1 (m + 25) (b + ((1) : Nat)) z18) m 35 (b + ((1) : Nat) + 1)) m 9 z18 = τ_p0_2 at p0_2 ⊢
  refine r_aload_n (Y := YX9_passAll) dX9_passAll_24 rfl ?_
  refine r_aload_n (Y := YX9_passAll) dX9_passAll_25 rfl ?_
  refine r_aload_n (Y := YX9_passAll) dX9_passAll_26 rfl ?_
  refine r_getV (Y := YX9_passAll) (v := σ m 12) (jz := 12) fl_X9_206 dX9_passAll_27 (p0_2.rd (p := (2)) (by omega) (by show m = m + 0; omega) (rfl)) ?_
  refine r_iV1I (Y := YX9_passAll) mv_X9_269 dX9_passAll_30 (c_X9_pass hm (a := b + ((2) : Nat)) (f := f) p0_2.2.1 p0_2.2.2.1 hf (by omega) (by omega) ((p0_2.1 (2) (by omega)).2 (Nat.le_refl _)).2) (by assumption) (fun σ30 z30 h30 => ?_)
  obtain ⟨hz30, rfl⟩ := h30
  refine r_putI (Y := YX9_passAll) (jz := 12) fp_X9_206 dX9_passAll_33 ?_
  have p0_3 := p0_2.step (p := (2)) (p' := (3)) (z := z30) (by omega) (by omega) (c := m) (i := 12) (by show m = m + 0; omega) (rfl) hz30
  generalize up (up (up τ_p0_2 (m + 25) (b + ((2) : Nat)) z30) m 35 (b + ((2) : Nat) + 1)) m 12 z30 = τ_p0_3 at p0_3 ⊢
  refine r_aload_n (Y := YX9_passAll) dX9_passAll_36 rfl ?_
  refine r_aload_n (Y := YX9_passAll) dX9_passAll_37 rfl ?_
  refine r_aload_n (Y := YX9_passAll) dX9_passAll_38 rfl ?_
  refine r_getV (Y := YX9_passAll) (v := σ m 15) (jz := 15) fl_X9_234 dX9_passAll_39 (p0_3.rd (p := (3)) (by omega) (by show m = m + 0; omega) (rfl)) ?_
  refine r_iV1I (Y := YX9_passAll) mv_X9_269 dX9_passAll_42 (c_X9_pass hm (a := b + ((3) : Nat)) (f := f) p0_3.2.1 p0_3.2.2.1 hf (by omega) (by omega) ((p0_3.1 (3) (by omega)).2 (Nat.le_refl _)).2) (by assumption) (fun σ42 z42 h42 => ?_)
  obtain ⟨hz42, rfl⟩ := h42
  refine r_putI (Y := YX9_passAll) (jz := 15) fp_X9_234 dX9_passAll_45 ?_
  have p0_4 := p0_3.step (p := (3)) (p' := (4)) (z := z42) (by omega) (by omega) (c := m) (i := 15) (by show m = m + 0; omega) (rfl) hz42
  generalize up (up (up τ_p0_3 (m + 25) (b + ((3) : Nat)) z42) m 35 (b + ((3) : Nat) + 1)) m 15 z42 = τ_p0_4 at p0_4 ⊢
  refine r_iconst (Y := YX9_passAll) dX9_passAll_48 ?_
  refine r_istore_n (Y := YX9_passAll) dX9_passAll_49 ?_
  suffices hl1 : ∀ (k n : Nat) (τ : ab_S), n + k = 6 → PS σ τ m b f (4 + 8 * n) → R2 YX9_passAll 1 τ 50 [some (rf m), some (iv n)] [] (PV fun σ' => PS σ σ' m b f 152) from
    R2.weak (by repeat first | exact trivial | refine And.intro rfl ?_) (hl1 6 0 τ_p0_4 rfl p0_4)
  intro k
  induction k with
  | zero =>
    intro n τ0 e1 q0
    have e2 : n = 6 := by omega
    subst e2
    refine r_iload_n (Y := YX9_passAll) dX9_passAll_50 rfl ?_
    refine r_bipush (Y := YX9_passAll) dX9_passAll_51 ?_
    refine r_icmp_ge (Y := YX9_passAll) (tgt := 190) dX9_passAll_53 (by decide) (fun c53 => ?_) (fun c53 => absurd c53 (by omega)) 
    refine r_iconst (Y := YX9_passAll) dX9_passAll_190 ?_
    refine r_istore_n (Y := YX9_passAll) dX9_passAll_191 ?_
    suffices hl2 : ∀ (k n : Nat) (τ : ab_S), n + k = 32 → PS σ τ m b f (52 + 3 * n) → R2 YX9_passAll 1 τ 192 [some (rf m), some (iv n)] [] (PV fun σ' => PS σ σ' m b f 152) from
      R2.weak (by repeat first | exact trivial | refine And.intro rfl ?_) (hl2 32 0 τ0 rfl q0)
    intro k
    induction k with
    | zero =>
      intro n τ0 e1 q0
      have e2 : n = 32 := by omega
      subst e2
      refine r_iload_n (Y := YX9_passAll) dX9_passAll_192 rfl ?_
      refine r_bipush (Y := YX9_passAll) dX9_passAll_193 ?_
      refine r_icmp_ge (Y := YX9_passAll) (tgt := 252) dX9_passAll_195 (by decide) (fun c195 => ?_) (fun c195 => absurd c195 (by omega)) 
      refine r_iconst (Y := YX9_passAll) dX9_passAll_252 ?_
      refine r_istore_n (Y := YX9_passAll) dX9_passAll_253 ?_
      suffices hl3 : ∀ (k n : Nat) (τ : ab_S), n + k = 4 → PS σ τ m b f (148 + n) → R2 YX9_passAll 1 τ 254 [some (rf m), some (iv n)] [] (PV fun σ' => PS σ σ' m b f 152) from
        R2.weak (by repeat first | exact trivial | refine And.intro rfl ?_) (hl3 4 0 τ0 rfl q0)
      intro k
      induction k with
      | zero =>
        intro n τ0 e1 q0
        have e2 : n = 4 := by omega
        subst e2
        refine r_iload_n (Y := YX9_passAll) dX9_passAll_254 rfl ?_
        refine r_iconst (Y := YX9_passAll) dX9_passAll_255 ?_
        refine r_icmp_ge (Y := YX9_passAll) (tgt := 281) dX9_passAll_256 (by decide) (fun c256 => ?_) (fun c256 => absurd c256 (by omega)) 
        refine r_return (Y := YX9_passAll) dX9_passAll_281 ?_
        exact q0
      | succ k ih =>
        intro n τ0 e1 q0
        refine r_iload_n (Y := YX9_passAll) dX9_passAll_254 rfl ?_
        refine r_iconst (Y := YX9_passAll) dX9_passAll_255 ?_
        refine r_icmp_ge (Y := YX9_passAll) (tgt := 281) dX9_passAll_256 (by decide) (fun c256 => absurd c256 (by omega)) (fun c256 => ?_) 
        refine r_aload_n (Y := YX9_passAll) dX9_passAll_259 rfl ?_
        refine r_getR (Y := YX9_passAll) (δz := 8) fl_X9_31 dX9_passAll_260 rfl rfl ?_
        refine r_iload_n (Y := YX9_passAll) dX9_passAll_263 rfl ?_
        refine r_aload_n (Y := YX9_passAll) dX9_passAll_264 rfl ?_
        refine r_aload_n (Y := YX9_passAll) dX9_passAll_265 rfl ?_
        refine r_getR (Y := YX9_passAll) (δz := 8) fl_X9_31 dX9_passAll_266 rfl rfl ?_
        refine r_iload_n (Y := YX9_passAll) dX9_passAll_269 rfl ?_
        refine r_iaV (Y := YX9_passAll) (v := σ (m + 8) (n : Int)) dX9_passAll_270 (q0.rd (p := (148 + n)) (by omega) (by rw [loc_c]; rfl) (by rw [loc_c])) ?_
        refine r_iV1I (Y := YX9_passAll) mv_X9_269 dX9_passAll_271 (c_X9_pass hm (a := b + ((148 + n) : Nat)) (f := f) q0.2.1 q0.2.2.1 hf (by omega) (by omega) ((q0.1 (148 + n) (by omega)).2 (Nat.le_refl _)).2) (by assumption) (fun σ271 z271 h271 => ?_)
        obtain ⟨hz271, rfl⟩ := h271
        refine r_iastore (Y := YX9_passAll) dX9_passAll_274 ?_
        have q0_1 := q0.step (p := (148 + n)) (p' := (148 + n + 1)) (z := z271) (by omega) (by omega) (c := (m + 8)) (i := (n : Int)) (by rw [loc_c]; rfl) (by rw [loc_c]) hz271
        generalize up (up (up τ0 (m + 25) (b + ((148 + n) : Nat)) z271) m 35 (b + ((148 + n) : Nat) + 1)) (m + 8) (n : Int) z271 = τ_q0_1 at q0_1 ⊢
        refine r_iinc (Y := YX9_passAll) dX9_passAll_275 rfl ?_
        refine r_goto (Y := YX9_passAll) (tgt := 254) dX9_passAll_278 (by decide) ?_
        exact R2.weak (by repeat first | exact trivial | refine And.intro rfl ?_) (ih (n + 1) τ_q0_1 (by omega) (by rw [show 148 + (n + 1) = 148 + n + 1 by omega]; exact q0_1))
    | succ k ih =>
      intro n τ0 e1 q0
      change PS σ τ0 m b f (52 + 3 * n + 0) at q0
      refine r_iload_n (Y := YX9_passAll) dX9_passAll_192 rfl ?_
      refine r_bipush (Y := YX9_passAll) dX9_passAll_193 ?_
      refine r_icmp_ge (Y := YX9_passAll) (tgt := 252) dX9_passAll_195 (by decide) (fun c195 => absurd c195 (by omega)) (fun c195 => ?_) 
      refine r_aload_n (Y := YX9_passAll) dX9_passAll_198 rfl ?_
      refine r_getR (Y := YX9_passAll) (δz := 5) fl_X9_22 dX9_passAll_199 rfl rfl ?_
      refine r_iload_n (Y := YX9_passAll) dX9_passAll_202 rfl ?_
      refine r_aload_n (Y := YX9_passAll) dX9_passAll_203 rfl ?_
      refine r_aload_n (Y := YX9_passAll) dX9_passAll_204 rfl ?_
      refine r_getR (Y := YX9_passAll) (δz := 5) fl_X9_22 dX9_passAll_205 rfl rfl ?_
      refine r_iload_n (Y := YX9_passAll) dX9_passAll_208 rfl ?_
      refine r_iaV (Y := YX9_passAll) (v := σ (m + 5) (n : Int)) dX9_passAll_209 (q0.rd (p := (52 + 3 * n + 0)) (by omega) (by rw [loc_b (by omega) (by omega)]; show m + 5 = m + ((5 + 0 : Nat) : Int); omega) (by rw [loc_b (by omega) (by omega)])) ?_
      refine r_iV1I (Y := YX9_passAll) mv_X9_269 dX9_passAll_210 (c_X9_pass hm (a := b + ((52 + 3 * n + 0) : Nat)) (f := f) q0.2.1 q0.2.2.1 hf (by omega) (by omega) ((q0.1 (52 + 3 * n + 0) (by omega)).2 (Nat.le_refl _)).2) (by assumption) (fun σ210 z210 h210 => ?_)
      obtain ⟨hz210, rfl⟩ := h210
      refine r_iastore (Y := YX9_passAll) dX9_passAll_213 ?_
      have q0_1 := q0.step (p := (52 + 3 * n + 0)) (p' := (52 + 3 * n + 1)) (z := z210) (by omega) (by omega) (c := (m + 5)) (i := (n : Int)) (by rw [loc_b (by omega) (by omega)]; show m + 5 = m + ((5 + 0 : Nat) : Int); omega) (by rw [loc_b (by omega) (by omega)]) hz210
      generalize up (up (up τ0 (m + 25) (b + ((52 + 3 * n + 0) : Nat)) z210) m 35 (b + ((52 + 3 * n + 0) : Nat) + 1)) (m + 5) (n : Int) z210 = τ_q0_1 at q0_1 ⊢
      refine r_aload_n (Y := YX9_passAll) dX9_passAll_214 rfl ?_
      refine r_getR (Y := YX9_passAll) (δz := 6) fl_X9_25 dX9_passAll_215 rfl rfl ?_
      refine r_iload_n (Y := YX9_passAll) dX9_passAll_218 rfl ?_
      refine r_aload_n (Y := YX9_passAll) dX9_passAll_219 rfl ?_
      refine r_aload_n (Y := YX9_passAll) dX9_passAll_220 rfl ?_
      refine r_getR (Y := YX9_passAll) (δz := 6) fl_X9_25 dX9_passAll_221 rfl rfl ?_
      refine r_iload_n (Y := YX9_passAll) dX9_passAll_224 rfl ?_
      refine r_iaV (Y := YX9_passAll) (v := σ (m + 6) (n : Int)) dX9_passAll_225 (q0_1.rd (p := (52 + 3 * n + 1)) (by omega) (by rw [loc_b (by omega) (by omega)]; show m + 6 = m + ((5 + 1 : Nat) : Int); omega) (by rw [loc_b (by omega) (by omega)])) ?_
      refine r_iV1I (Y := YX9_passAll) mv_X9_269 dX9_passAll_226 (c_X9_pass hm (a := b + ((52 + 3 * n + 1) : Nat)) (f := f) q0_1.2.1 q0_1.2.2.1 hf (by omega) (by omega) ((q0_1.1 (52 + 3 * n + 1) (by omega)).2 (Nat.le_refl _)).2) (by assumption) (fun σ226 z226 h226 => ?_)
      obtain ⟨hz226, rfl⟩ := h226
      refine r_iastore (Y := YX9_passAll) dX9_passAll_229 ?_
      have q0_2 := q0_1.step (p := (52 + 3 * n + 1)) (p' := (52 + 3 * n + 2)) (z := z226) (by omega) (by omega) (c := (m + 6)) (i := (n : Int)) (by rw [loc_b (by omega) (by omega)]; show m + 6 = m + ((5 + 1 : Nat) : Int); omega) (by rw [loc_b (by omega) (by omega)]) hz226
      generalize up (up (up τ_q0_1 (m + 25) (b + ((52 + 3 * n + 1) : Nat)) z226) m 35 (b + ((52 + 3 * n + 1) : Nat) + 1)) (m + 6) (n : Int) z226 = τ_q0_2 at q0_2 ⊢
      refine r_aload_n (Y := YX9_passAll) dX9_passAll_230 rfl ?_
      refine r_getR (Y := YX9_passAll) (δz := 7) fl_X9_28 dX9_passAll_231 rfl rfl ?_
      refine r_iload_n (Y := YX9_passAll) dX9_passAll_234 rfl ?_
      refine r_aload_n (Y := YX9_passAll) dX9_passAll_235 rfl ?_
      refine r_aload_n (Y := YX9_passAll) dX9_passAll_236 rfl ?_
      refine r_getR (Y := YX9_passAll) (δz := 7) fl_X9_28 dX9_passAll_237 rfl rfl ?_
      refine r_iload_n (Y := YX9_passAll) dX9_passAll_240 rfl ?_
      refine r_iaV (Y := YX9_passAll) (v := σ (m + 7) (n : Int)) dX9_passAll_241 (q0_2.rd (p := (52 + 3 * n + 2)) (by omega) (by rw [loc_b (by omega) (by omega)]; show m + 7 = m + ((5 + 2 : Nat) : Int); omega) (by rw [loc_b (by omega) (by omega)])) ?_
      refine r_iV1I (Y := YX9_passAll) mv_X9_269 dX9_passAll_242 (c_X9_pass hm (a := b + ((52 + 3 * n + 2) : Nat)) (f := f) q0_2.2.1 q0_2.2.2.1 hf (by omega) (by omega) ((q0_2.1 (52 + 3 * n + 2) (by omega)).2 (Nat.le_refl _)).2) (by assumption) (fun σ242 z242 h242 => ?_)
      obtain ⟨hz242, rfl⟩ := h242
      refine r_iastore (Y := YX9_passAll) dX9_passAll_245 ?_
      have q0_3 := q0_2.step (p := (52 + 3 * n + 2)) (p' := (52 + 3 * n + 3)) (z := z242) (by omega) (by omega) (c := (m + 7)) (i := (n : Int)) (by rw [loc_b (by omega) (by omega)]; show m + 7 = m + ((5 + 2 : Nat) : Int); omega) (by rw [loc_b (by omega) (by omega)]) hz242
      generalize up (up (up τ_q0_2 (m + 25) (b + ((52 + 3 * n + 2) : Nat)) z242) m 35 (b + ((52 + 3 * n + 2) : Nat) + 1)) (m + 7) (n : Int) z242 = τ_q0_3 at q0_3 ⊢
      refine r_iinc (Y := YX9_passAll) dX9_passAll_246 rfl ?_
      refine r_goto (Y := YX9_passAll) (tgt := 192) dX9_passAll_249 (by decide) ?_
      exact R2.weak (by repeat first | exact trivial | refine And.intro rfl ?_) (ih (n + 1) τ_q0_3 (by omega) (by rw [show 52 + 3 * (n + 1) = 52 + 3 * n + 3 by omega]; exact q0_3))
  | succ k ih =>
    intro n τ0 e1 q0
    change PS σ τ0 m b f (4 + 8 * n + 0) at q0
    refine r_iload_n (Y := YX9_passAll) dX9_passAll_50 rfl ?_
    refine r_bipush (Y := YX9_passAll) dX9_passAll_51 ?_
    refine r_icmp_ge (Y := YX9_passAll) (tgt := 190) dX9_passAll_53 (by decide) (fun c53 => absurd c53 (by omega)) (fun c53 => ?_) 
    refine r_aload_n (Y := YX9_passAll) dX9_passAll_56 rfl ?_
    refine r_getR (Y := YX9_passAll) (δz := 1) fl_X9_7 dX9_passAll_57 rfl rfl ?_
    refine r_iload_n (Y := YX9_passAll) dX9_passAll_60 rfl ?_
    refine r_aload_n (Y := YX9_passAll) dX9_passAll_61 rfl ?_
    refine r_aload_n (Y := YX9_passAll) dX9_passAll_62 rfl ?_
    refine r_getR (Y := YX9_passAll) (δz := 1) fl_X9_7 dX9_passAll_63 rfl rfl ?_
    refine r_iload_n (Y := YX9_passAll) dX9_passAll_66 rfl ?_
    refine r_iaV (Y := YX9_passAll) (v := σ (m + 1) (n : Int)) dX9_passAll_67 (q0.rd (p := (4 + 8 * n + 0)) (by omega) (by rw [loc_a (by omega) (by omega)]; rfl) (by rw [loc_a (by omega) (by omega)])) ?_
    refine r_iV1I (Y := YX9_passAll) mv_X9_269 dX9_passAll_68 (c_X9_pass hm (a := b + ((4 + 8 * n + 0) : Nat)) (f := f) q0.2.1 q0.2.2.1 hf (by omega) (by omega) ((q0.1 (4 + 8 * n + 0) (by omega)).2 (Nat.le_refl _)).2) (by assumption) (fun σ68 z68 h68 => ?_)
    obtain ⟨hz68, rfl⟩ := h68
    refine r_iastore (Y := YX9_passAll) dX9_passAll_71 ?_
    have q0_1 := q0.step (p := (4 + 8 * n + 0)) (p' := (4 + 8 * n + 1)) (z := z68) (by omega) (by omega) (c := (m + 1)) (i := (n : Int)) (by rw [loc_a (by omega) (by omega)]; rfl) (by rw [loc_a (by omega) (by omega)]) hz68
    generalize up (up (up τ0 (m + 25) (b + ((4 + 8 * n + 0) : Nat)) z68) m 35 (b + ((4 + 8 * n + 0) : Nat) + 1)) (m + 1) (n : Int) z68 = τ_q0_1 at q0_1 ⊢
    refine r_aload_n (Y := YX9_passAll) dX9_passAll_72 rfl ?_
    refine r_getR (Y := YX9_passAll) (δz := 2) fl_X9_13 dX9_passAll_73 rfl rfl ?_
    refine r_iload_n (Y := YX9_passAll) dX9_passAll_76 rfl ?_
    refine r_aload_n (Y := YX9_passAll) dX9_passAll_77 rfl ?_
    refine r_aload_n (Y := YX9_passAll) dX9_passAll_78 rfl ?_
    refine r_getR (Y := YX9_passAll) (δz := 2) fl_X9_13 dX9_passAll_79 rfl rfl ?_
    refine r_iload_n (Y := YX9_passAll) dX9_passAll_82 rfl ?_
    refine r_iaV (Y := YX9_passAll) (v := σ (m + 2) (n : Int)) dX9_passAll_83 (q0_1.rd (p := (4 + 8 * n + 1)) (by omega) (by rw [loc_a (by omega) (by omega)]; rfl) (by rw [loc_a (by omega) (by omega)])) ?_
    refine r_iV1I (Y := YX9_passAll) mv_X9_269 dX9_passAll_84 (c_X9_pass hm (a := b + ((4 + 8 * n + 1) : Nat)) (f := f) q0_1.2.1 q0_1.2.2.1 hf (by omega) (by omega) ((q0_1.1 (4 + 8 * n + 1) (by omega)).2 (Nat.le_refl _)).2) (by assumption) (fun σ84 z84 h84 => ?_)
    obtain ⟨hz84, rfl⟩ := h84
    refine r_iastore (Y := YX9_passAll) dX9_passAll_87 ?_
    have q0_2 := q0_1.step (p := (4 + 8 * n + 1)) (p' := (4 + 8 * n + 2)) (z := z84) (by omega) (by omega) (c := (m + 2)) (i := (n : Int)) (by rw [loc_a (by omega) (by omega)]; rfl) (by rw [loc_a (by omega) (by omega)]) hz84
    generalize up (up (up τ_q0_1 (m + 25) (b + ((4 + 8 * n + 1) : Nat)) z84) m 35 (b + ((4 + 8 * n + 1) : Nat) + 1)) (m + 2) (n : Int) z84 = τ_q0_2 at q0_2 ⊢
    refine r_aload_n (Y := YX9_passAll) dX9_passAll_88 rfl ?_
    refine r_getR (Y := YX9_passAll) (δz := 3) fl_X9_16 dX9_passAll_89 rfl rfl ?_
    refine r_iload_n (Y := YX9_passAll) dX9_passAll_92 rfl ?_
    refine r_aload_n (Y := YX9_passAll) dX9_passAll_93 rfl ?_
    refine r_aload_n (Y := YX9_passAll) dX9_passAll_94 rfl ?_
    refine r_getR (Y := YX9_passAll) (δz := 3) fl_X9_16 dX9_passAll_95 rfl rfl ?_
    refine r_iload_n (Y := YX9_passAll) dX9_passAll_98 rfl ?_
    refine r_iaV (Y := YX9_passAll) (v := σ (m + 3) (n : Int)) dX9_passAll_99 (q0_2.rd (p := (4 + 8 * n + 2)) (by omega) (by rw [loc_a (by omega) (by omega)]; rfl) (by rw [loc_a (by omega) (by omega)])) ?_
    refine r_iV1I (Y := YX9_passAll) mv_X9_269 dX9_passAll_100 (c_X9_pass hm (a := b + ((4 + 8 * n + 2) : Nat)) (f := f) q0_2.2.1 q0_2.2.2.1 hf (by omega) (by omega) ((q0_2.1 (4 + 8 * n + 2) (by omega)).2 (Nat.le_refl _)).2) (by assumption) (fun σ100 z100 h100 => ?_)
    obtain ⟨hz100, rfl⟩ := h100
    refine r_iastore (Y := YX9_passAll) dX9_passAll_103 ?_
    have q0_3 := q0_2.step (p := (4 + 8 * n + 2)) (p' := (4 + 8 * n + 3)) (z := z100) (by omega) (by omega) (c := (m + 3)) (i := (n : Int)) (by rw [loc_a (by omega) (by omega)]; rfl) (by rw [loc_a (by omega) (by omega)]) hz100
    generalize up (up (up τ_q0_2 (m + 25) (b + ((4 + 8 * n + 2) : Nat)) z100) m 35 (b + ((4 + 8 * n + 2) : Nat) + 1)) (m + 3) (n : Int) z100 = τ_q0_3 at q0_3 ⊢
    refine r_aload_n (Y := YX9_passAll) dX9_passAll_104 rfl ?_
    refine r_getR (Y := YX9_passAll) (δz := 4) fl_X9_19 dX9_passAll_105 rfl rfl ?_
    refine r_iload_n (Y := YX9_passAll) dX9_passAll_108 rfl ?_
    refine r_aload_n (Y := YX9_passAll) dX9_passAll_109 rfl ?_
    refine r_aload_n (Y := YX9_passAll) dX9_passAll_110 rfl ?_
    refine r_getR (Y := YX9_passAll) (δz := 4) fl_X9_19 dX9_passAll_111 rfl rfl ?_
    refine r_iload_n (Y := YX9_passAll) dX9_passAll_114 rfl ?_
    refine r_iaV (Y := YX9_passAll) (v := σ (m + 4) (n : Int)) dX9_passAll_115 (q0_3.rd (p := (4 + 8 * n + 3)) (by omega) (by rw [loc_a (by omega) (by omega)]; rfl) (by rw [loc_a (by omega) (by omega)])) ?_
    refine r_iV1I (Y := YX9_passAll) mv_X9_269 dX9_passAll_116 (c_X9_pass hm (a := b + ((4 + 8 * n + 3) : Nat)) (f := f) q0_3.2.1 q0_3.2.2.1 hf (by omega) (by omega) ((q0_3.1 (4 + 8 * n + 3) (by omega)).2 (Nat.le_refl _)).2) (by assumption) (fun σ116 z116 h116 => ?_)
    obtain ⟨hz116, rfl⟩ := h116
    refine r_iastore (Y := YX9_passAll) dX9_passAll_119 ?_
    have q0_4 := q0_3.step (p := (4 + 8 * n + 3)) (p' := (4 + 8 * n + 4)) (z := z116) (by omega) (by omega) (c := (m + 4)) (i := (n : Int)) (by rw [loc_a (by omega) (by omega)]; rfl) (by rw [loc_a (by omega) (by omega)]) hz116
    generalize up (up (up τ_q0_3 (m + 25) (b + ((4 + 8 * n + 3) : Nat)) z116) m 35 (b + ((4 + 8 * n + 3) : Nat) + 1)) (m + 4) (n : Int) z116 = τ_q0_4 at q0_4 ⊢
    refine r_aload_n (Y := YX9_passAll) dX9_passAll_120 rfl ?_
    refine r_getR (Y := YX9_passAll) (δz := 9) fl_X9_34 dX9_passAll_121 rfl rfl ?_
    refine r_iload_n (Y := YX9_passAll) dX9_passAll_124 rfl ?_
    refine r_aload_n (Y := YX9_passAll) dX9_passAll_125 rfl ?_
    refine r_aload_n (Y := YX9_passAll) dX9_passAll_126 rfl ?_
    refine r_getR (Y := YX9_passAll) (δz := 9) fl_X9_34 dX9_passAll_127 rfl rfl ?_
    refine r_iload_n (Y := YX9_passAll) dX9_passAll_130 rfl ?_
    refine r_iaV (Y := YX9_passAll) (v := σ (m + 9) (n : Int)) dX9_passAll_131 (q0_4.rd (p := (4 + 8 * n + 4)) (by omega) (by rw [loc_a (by omega) (by omega)]; rfl) (by rw [loc_a (by omega) (by omega)])) ?_
    refine r_iV1I (Y := YX9_passAll) mv_X9_269 dX9_passAll_132 (c_X9_pass hm (a := b + ((4 + 8 * n + 4) : Nat)) (f := f) q0_4.2.1 q0_4.2.2.1 hf (by omega) (by omega) ((q0_4.1 (4 + 8 * n + 4) (by omega)).2 (Nat.le_refl _)).2) (by assumption) (fun σ132 z132 h132 => ?_)
    obtain ⟨hz132, rfl⟩ := h132
    refine r_iastore (Y := YX9_passAll) dX9_passAll_135 ?_
    have q0_5 := q0_4.step (p := (4 + 8 * n + 4)) (p' := (4 + 8 * n + 5)) (z := z132) (by omega) (by omega) (c := (m + 9)) (i := (n : Int)) (by rw [loc_a (by omega) (by omega)]; rfl) (by rw [loc_a (by omega) (by omega)]) hz132
    generalize up (up (up τ_q0_4 (m + 25) (b + ((4 + 8 * n + 4) : Nat)) z132) m 35 (b + ((4 + 8 * n + 4) : Nat) + 1)) (m + 9) (n : Int) z132 = τ_q0_5 at q0_5 ⊢
    refine r_aload_n (Y := YX9_passAll) dX9_passAll_136 rfl ?_
    refine r_getR (Y := YX9_passAll) (δz := 10) fl_X9_37 dX9_passAll_137 rfl rfl ?_
    refine r_iload_n (Y := YX9_passAll) dX9_passAll_140 rfl ?_
    refine r_aload_n (Y := YX9_passAll) dX9_passAll_141 rfl ?_
    refine r_aload_n (Y := YX9_passAll) dX9_passAll_142 rfl ?_
    refine r_getR (Y := YX9_passAll) (δz := 10) fl_X9_37 dX9_passAll_143 rfl rfl ?_
    refine r_iload_n (Y := YX9_passAll) dX9_passAll_146 rfl ?_
    refine r_iaV (Y := YX9_passAll) (v := σ (m + 10) (n : Int)) dX9_passAll_147 (q0_5.rd (p := (4 + 8 * n + 5)) (by omega) (by rw [loc_a (by omega) (by omega)]; rfl) (by rw [loc_a (by omega) (by omega)])) ?_
    refine r_iV1I (Y := YX9_passAll) mv_X9_269 dX9_passAll_148 (c_X9_pass hm (a := b + ((4 + 8 * n + 5) : Nat)) (f := f) q0_5.2.1 q0_5.2.2.1 hf (by omega) (by omega) ((q0_5.1 (4 + 8 * n + 5) (by omega)).2 (Nat.le_refl _)).2) (by assumption) (fun σ148 z148 h148 => ?_)
    obtain ⟨hz148, rfl⟩ := h148
    refine r_iastore (Y := YX9_passAll) dX9_passAll_151 ?_
    have q0_6 := q0_5.step (p := (4 + 8 * n + 5)) (p' := (4 + 8 * n + 6)) (z := z148) (by omega) (by omega) (c := (m + 10)) (i := (n : Int)) (by rw [loc_a (by omega) (by omega)]; rfl) (by rw [loc_a (by omega) (by omega)]) hz148
    generalize up (up (up τ_q0_5 (m + 25) (b + ((4 + 8 * n + 5) : Nat)) z148) m 35 (b + ((4 + 8 * n + 5) : Nat) + 1)) (m + 10) (n : Int) z148 = τ_q0_6 at q0_6 ⊢
    refine r_aload_n (Y := YX9_passAll) dX9_passAll_152 rfl ?_
    refine r_getR (Y := YX9_passAll) (δz := 11) fl_X9_40 dX9_passAll_153 rfl rfl ?_
    refine r_iload_n (Y := YX9_passAll) dX9_passAll_156 rfl ?_
    refine r_aload_n (Y := YX9_passAll) dX9_passAll_157 rfl ?_
    refine r_aload_n (Y := YX9_passAll) dX9_passAll_158 rfl ?_
    refine r_getR (Y := YX9_passAll) (δz := 11) fl_X9_40 dX9_passAll_159 rfl rfl ?_
    refine r_iload_n (Y := YX9_passAll) dX9_passAll_162 rfl ?_
    refine r_iaV (Y := YX9_passAll) (v := σ (m + 11) (n : Int)) dX9_passAll_163 (q0_6.rd (p := (4 + 8 * n + 6)) (by omega) (by rw [loc_a (by omega) (by omega)]; rfl) (by rw [loc_a (by omega) (by omega)])) ?_
    refine r_iV1I (Y := YX9_passAll) mv_X9_269 dX9_passAll_164 (c_X9_pass hm (a := b + ((4 + 8 * n + 6) : Nat)) (f := f) q0_6.2.1 q0_6.2.2.1 hf (by omega) (by omega) ((q0_6.1 (4 + 8 * n + 6) (by omega)).2 (Nat.le_refl _)).2) (by assumption) (fun σ164 z164 h164 => ?_)
    obtain ⟨hz164, rfl⟩ := h164
    refine r_iastore (Y := YX9_passAll) dX9_passAll_167 ?_
    have q0_7 := q0_6.step (p := (4 + 8 * n + 6)) (p' := (4 + 8 * n + 7)) (z := z164) (by omega) (by omega) (c := (m + 11)) (i := (n : Int)) (by rw [loc_a (by omega) (by omega)]; rfl) (by rw [loc_a (by omega) (by omega)]) hz164
    generalize up (up (up τ_q0_6 (m + 25) (b + ((4 + 8 * n + 6) : Nat)) z164) m 35 (b + ((4 + 8 * n + 6) : Nat) + 1)) (m + 11) (n : Int) z164 = τ_q0_7 at q0_7 ⊢
    refine r_aload_n (Y := YX9_passAll) dX9_passAll_168 rfl ?_
    refine r_getR (Y := YX9_passAll) (δz := 12) fl_X9_43 dX9_passAll_169 rfl rfl ?_
    refine r_iload_n (Y := YX9_passAll) dX9_passAll_172 rfl ?_
    refine r_aload_n (Y := YX9_passAll) dX9_passAll_173 rfl ?_
    refine r_aload_n (Y := YX9_passAll) dX9_passAll_174 rfl ?_
    refine r_getR (Y := YX9_passAll) (δz := 12) fl_X9_43 dX9_passAll_175 rfl rfl ?_
    refine r_iload_n (Y := YX9_passAll) dX9_passAll_178 rfl ?_
    refine r_iaV (Y := YX9_passAll) (v := σ (m + 12) (n : Int)) dX9_passAll_179 (q0_7.rd (p := (4 + 8 * n + 7)) (by omega) (by rw [loc_a (by omega) (by omega)]; rfl) (by rw [loc_a (by omega) (by omega)])) ?_
    refine r_iV1I (Y := YX9_passAll) mv_X9_269 dX9_passAll_180 (c_X9_pass hm (a := b + ((4 + 8 * n + 7) : Nat)) (f := f) q0_7.2.1 q0_7.2.2.1 hf (by omega) (by omega) ((q0_7.1 (4 + 8 * n + 7) (by omega)).2 (Nat.le_refl _)).2) (by assumption) (fun σ180 z180 h180 => ?_)
    obtain ⟨hz180, rfl⟩ := h180
    refine r_iastore (Y := YX9_passAll) dX9_passAll_183 ?_
    have q0_8 := q0_7.step (p := (4 + 8 * n + 7)) (p' := (4 + 8 * n + 8)) (z := z180) (by omega) (by omega) (c := (m + 12)) (i := (n : Int)) (by rw [loc_a (by omega) (by omega)]; rfl) (by rw [loc_a (by omega) (by omega)]) hz180
    generalize up (up (up τ_q0_7 (m + 25) (b + ((4 + 8 * n + 7) : Nat)) z180) m 35 (b + ((4 + 8 * n + 7) : Nat) + 1)) (m + 12) (n : Int) z180 = τ_q0_8 at q0_8 ⊢
    refine r_iinc (Y := YX9_passAll) dX9_passAll_184 rfl ?_
    refine r_goto (Y := YX9_passAll) (tgt := 50) dX9_passAll_187 (by decide) ?_
    exact R2.weak (by repeat first | exact trivial | refine And.intro rfl ?_) (ih (n + 1) τ_q0_8 (by omega) (by rw [show 4 + 8 * (n + 1) = 4 + 8 * n + 8 by omega]; exact q0_8))
