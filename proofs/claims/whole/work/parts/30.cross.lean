/-! crossings: the most worth by a table -/
def lw (xs : List (Int × Int)) (l : Nat) : Int := (xs.getD l (0, 0)).1
def lv (xs : List (Int × Int)) (l : Nat) : Int := (xs.getD l (0, 0)).2
def sb (t : Int) (l : Nat) : Int := bor t (bsl 1 l)
def wby (xs : List (Int × Int)) (B : Int → Int) (f : Int → Int → Int) (t c : Int) (l : Nat) : Int := if lw xs l ≤ B c then lv xs l + f (sb t l) (c + 1) else f (sb t l) c
def mfN (xs : List (Int × Int)) (B : Int → Int) (f : Int → Int → Int) (t c : Int) : Nat → Int
  | 0 => 0
  | l + 1 => if bt t l = 0 then max (mfN xs B f t c l) (wby xs B f t c l) else mfN xs B f t c l
def VV (xs : List (Int × Int)) (B : Int → Int) : Nat → Int → Int → Int
  | 0 => fun _ _ => 0
  | k + 1 => fun t c => mfN xs B (VV xs B k) t c xs.length
def fstN (p : Nat → Bool) : Nat → Nat → Nat
  | 0, _ => 0
  | k + 1, i => if p i then i else fstN p k (i + 1)
def fbp (xs : List (Int × Int)) (B : Int → Int) (f : Int → Int → Int) (t c v : Int) (l : Nat) : Bool := decide (bt t l = 0) && decide (wby xs B f t c l = v)
/-- the load whose turn it is, with k + 1 to go -/
def nxt (xs : List (Int × Int)) (B : Int → Int) (k : Nat) (t c : Int) : Nat := fstN (fbp xs B (VV xs B k) t c (VV xs B (k + 1) t c)) xs.length 0
def ords (xs : List (Int × Int)) (B : Int → Int) : Nat → Int → Int → List Int
  | 0, _, _ => []
  | k + 1, t, c => (nxt xs B k t c : Int) :: ords xs B k (sb t (nxt xs B k t c)) (if lw xs (nxt xs B k t c) ≤ B c then c + 1 else c)
def OKL (xs : List (Int × Int)) : Prop := ∀ q ∈ xs, 0 ≤ q.1 ∧ q.1 ≤ 9999 ∧ 0 ≤ q.2 ∧ q.2 ≤ 99
theorem lw_get {xs : List (Int × Int)} {l : Nat} {q : Int × Int} (h : xs[l]? = some q) : lw xs l = q.1 ∧ lv xs l = q.2 := by
  unfold lw lv
  rw [List.getD_eq_getElem?_getD, h]
  exact ⟨rfl, rfl⟩
theorem lw_bd {xs : List (Int × Int)} {l : Nat} (h : OKL xs) (hl : l < xs.length) : 0 ≤ lw xs l ∧ lw xs l ≤ 9999 ∧ 0 ≤ lv xs l ∧ lv xs l ≤ 99 := by
  obtain ⟨q, hq, hm⟩ := getP_some hl
  obtain ⟨e1, e2⟩ := lw_get hq
  rw [e1, e2]
  exact h q hm
def qsbB (n t l : Nat) : Bool := !(decide (bt t l = 0)) || (decide ((t : Int) < sb t l) && (decide (sb t l < ((2 ^ n : Nat) : Int)) && decide (pc6 (sb t l) = pc6 t + 1)))
theorem qsb_all : ∀ n : Nat, n < 7 → ∀ t : Nat, t < 2 ^ n → ∀ l : Nat, l < n → qsbB n t l = true := by decide +kernel
theorem qsb_dec (n : Nat) (hn : n < 7) (t : Nat) (ht : t < 2 ^ n) (l : Nat) (hl : l < n) (hb : bt t l = 0) : (t : Int) < sb t l ∧ sb t l < (2 ^ n : Nat) ∧ pc6 (sb t l) = pc6 t + 1 := by
  have h := qsb_all n hn t ht l hl
  unfold qsbB at h
  rw [decide_eq_true hb, Bool.not_true, Bool.false_or, Bool.and_eq_true, Bool.and_eq_true, decide_eq_true_eq, decide_eq_true_eq, decide_eq_true_eq] at h
  exact h
theorem qpc_dec : ∀ n : Nat, n < 7 → ∀ t : Nat, t < 2 ^ n → 0 ≤ pc6 t ∧ pc6 t ≤ n ∧ (pc6 t = n → (t : Int) = (2 ^ n : Nat) - 1) ∧ ((t : Int) = (2 ^ n : Nat) - 1 → pc6 t = n) := by decide +kernel
theorem qp2_dec : ∀ n : Nat, n < 7 → bsl 1 n = (2 ^ n : Nat) ∧ 2 ^ n ≤ 64 ∧ 1 ≤ 2 ^ n := by decide +kernel
theorem wby_bd {xs : List (Int × Int)} {B : Int → Int} {f : Int → Int → Int} {t c : Int} {l k : Nat} (h : OKL xs) (hl : l < xs.length) (hf : ∀ t c, 0 ≤ f t c ∧ f t c ≤ 99 * k) : 0 ≤ wby xs B f t c l ∧ wby xs B f t c l ≤ 99 * ((k + 1 : Nat) : Int) := by
  have h1 := lw_bd h hl
  have h2 := hf (sb t l) (c + 1)
  have h3 := hf (sb t l) c
  unfold wby
  split <;> omega
theorem mfN_bd {xs : List (Int × Int)} {B : Int → Int} {f : Int → Int → Int} {t c : Int} {k : Nat} (h : OKL xs) (hf : ∀ t c, 0 ≤ f t c ∧ f t c ≤ 99 * k) : ∀ l : Nat, l ≤ xs.length → 0 ≤ mfN xs B f t c l ∧ mfN xs B f t c l ≤ 99 * ((k + 1 : Nat) : Int)
  | 0, _ => by simp [mfN]; omega
  | l + 1, hl => by
    have h1 := mfN_bd (B := B) (t := t) (c := c) h hf l (by omega)
    have h2 := wby_bd (B := B) (t := t) (c := c) h (show l < xs.length by omega) hf
    unfold mfN
    split <;> omega
theorem VV_bd {xs : List (Int × Int)} {B : Int → Int} (h : OKL xs) : ∀ (k : Nat) (t c : Int), 0 ≤ VV xs B k t c ∧ VV xs B k t c ≤ 99 * k
  | 0, _, _ => by simp [VV]
  | k + 1, t, c => mfN_bd h (VV_bd h k) xs.length (Nat.le_refl _)
theorem mfN_congr {xs : List (Int × Int)} {B : Int → Int} {f g : Int → Int → Int} {t c : Int} (h : ∀ l : Nat, l < xs.length → bt t l = 0 → f (sb t l) c = g (sb t l) c ∧ f (sb t l) (c + 1) = g (sb t l) (c + 1)) : ∀ l : Nat, l ≤ xs.length → mfN xs B f t c l = mfN xs B g t c l
  | 0, _ => rfl
  | l + 1, hl => by
    unfold mfN
    rw [mfN_congr h l (by omega)]
    by_cases e : bt t l = 0
    · obtain ⟨e1, e2⟩ := h l (by omega) e
      rw [if_pos e, if_pos e]
      unfold wby
      rw [e1, e2]
    · rw [if_neg e, if_neg e]
/-- the full set: nothing is to come -/
theorem mfN_full {xs : List (Int × Int)} {B : Int → Int} {f : Int → Int → Int} {t c : Int} (h : ∀ l : Nat, l < xs.length → ¬ bt t l = 0) : ∀ l : Nat, l ≤ xs.length → mfN xs B f t c l = 0
  | 0, _ => rfl
  | l + 1, hl => by
    unfold mfN
    rw [if_neg (h l (by omega))]
    exact mfN_full h l (by omega)
theorem full_dec : ∀ n : Nat, n < 7 → ∀ l : Nat, l < n → ¬ bt (((2 ^ n : Nat) : Int) - 1) l = 0 := by decide +kernel
def CX (σ : ab_S) (c : Int) (xs : List (Int × Int)) (B : Int → Int) : Prop := RP σ (c + 1) xs ∧ ∀ k : Int, 0 ≤ k → k ≤ xs.length → σ (c + 4) k = B k
theorem CX.kept {σ τ : ab_S} {c : Int} {xs : List (Int × Int)} {B : Int → Int} (h : CX σ c xs B) (hf : ∀ k i : Int, c + 1 ≤ k → k ≤ c + 4 → τ k i = σ k i) : CX τ c xs B := ⟨h.1.kept (fun k i b1 b2 => hf k i (by omega) (by omega)), fun k h1 h2 => by rw [hf _ _ (by omega) (by omega)]; exact h.2 k h1 h2⟩
set_option maxRecDepth 20000 in
theorem c_X1_crosses {σ : ab_S} {c : Int} {xs : List (Int × Int)} {B : Int → Int} (hc : kd_ c 1 4) (hX : CX σ c xs B) (hL : xs.length ≤ 6) (hO : OKL xs) (hB : ∀ k : Int, 0 ≤ k → k ≤ xs.length → 0 ≤ B k ∧ B k ≤ 400000) {l : Nat} {k : Int} (hl : l < xs.length) (h1 : 0 ≤ k) (h2 : k ≤ xs.length) : C2 YX1_crosses 0 σ [rf c, iv l, iv k] (PI fun σ' z => σ' = σ ∧ z = if lw xs l ≤ B k then 1 else 0) := by
  obtain ⟨k1, k2, k3, k4⟩ := kd_crossing hc
  obtain ⟨k5, k6⟩ := kd_pairs k1
  obtain ⟨q, hq, hm⟩ := getP_some hl
  obtain ⟨e1, e2⟩ := lw_get hq
  obtain ⟨f1, f2⟩ := hX.1.2 l q hq
  have hb9 := hB k h1 h2
  have hl9 := lw_bd hO hl
  refine C2.of (by decide +kernel) (Nat.le_of_ble_eq_true rfl) ?_
  refine r_aload_n (Y := YX1_crosses) dX1_crosses_0 rfl ?_
  refine r_getR (Y := YX1_crosses) (δz := 1) fl_X1_12 dX1_crosses_1 rfl rfl ?_
  refine r_getR (Y := YX1_crosses) (δz := 1) fl_X1_63 dX1_crosses_4 rfl rfl ?_
  refine r_iload_n (Y := YX1_crosses) dX1_crosses_7 rfl ?_
  refine r_iaV (Y := YX1_crosses) (v := lw xs l) dX1_crosses_8 ((by rw [e1]; exact f1)) ?_
  refine r_aload_n (Y := YX1_crosses) dX1_crosses_9 rfl ?_
  refine r_getR (Y := YX1_crosses) (δz := 4) fl_X1_18 dX1_crosses_10 rfl rfl ?_
  refine r_iload_n (Y := YX1_crosses) dX1_crosses_13 rfl ?_
  refine r_iaV (Y := YX1_crosses) (v := B k) dX1_crosses_14 (hX.2 k h1 h2) ?_
  refine r_icmp_gt (Y := YX1_crosses) (tgt := 22) dX1_crosses_15 (by decide) (fun c15 => ?_) (fun c15 => ?_) 
  · refine r_iconst (Y := YX1_crosses) dX1_crosses_22 ?_
    refine r_zreturn (Y := YX1_crosses) dX1_crosses_23 (by decide) ?_
    exact ⟨rfl, by first | rw [if_pos (by omega)] | rw [if_neg (by omega)]⟩
  · refine r_iconst (Y := YX1_crosses) dX1_crosses_18 ?_
    refine r_goto (Y := YX1_crosses) (tgt := 23) dX1_crosses_19 (by decide) ?_
    refine r_zreturn (Y := YX1_crosses) dX1_crosses_23 (by decide) ?_
    exact ⟨rfl, by first | rw [if_pos (by omega)] | rw [if_neg (by omega)]⟩
set_option maxRecDepth 20000 in
theorem c_X1_worthBy {σ : ab_S} {c : Int} {xs : List (Int × Int)} {B : Int → Int} (hc : kd_ c 1 4) (hX : CX σ c xs B) (hL : xs.length ≤ 6) (hO : OKL xs) (hB : ∀ k : Int, 0 ≤ k → k ≤ xs.length → 0 ≤ B k ∧ B k ≤ 400000) {t k : Int} {f : Int → Int → Int} (ht1 : 0 ≤ t) (ht2 : t < (2 ^ xs.length : Nat)) (h1 : 0 ≤ k) (h2 : k ≤ pc6 t) {l : Nat} (hl : l < xs.length) (hb : bt t l = 0) (hT : σ (c + 5) (sb t l * 7 + k) = f (sb t l) k ∧ σ (c + 5) (sb t l * 7 + (k + 1)) = f (sb t l) (k + 1)) : C2 YX1_worthBy 1 σ [rf c, iv l, iv t, iv k] (PI fun σ' z => σ' = σ ∧ z = wby xs B f t k l) := by
  obtain ⟨k1, k2, k3, k4⟩ := kd_crossing hc
  obtain ⟨k5, k6⟩ := kd_pairs k1
  have hpw := qp2_dec xs.length (by omega)
  have hpc := qpc_dec xs.length (by omega) t.toNat (by omega)
  rw [show ((t.toNat : Nat) : Int) = t by omega] at hpc
  have hsb := qsb_dec xs.length (by omega) t.toNat (by omega) l hl (by rw [show ((t.toNat : Nat) : Int) = t by omega]; exact hb)
  rw [show ((t.toNat : Nat) : Int) = t by omega] at hsb
  obtain ⟨q, hq, hm⟩ := getP_some hl
  obtain ⟨e1, e2⟩ := lw_get hq
  obtain ⟨f1, f2⟩ := hX.1.2 l q hq
  refine C2.of (by decide +kernel) (Nat.le_of_ble_eq_true rfl) ?_
  refine r_iload_n (Y := YX1_worthBy) dX1_worthBy_0 rfl ?_
  refine r_iconst (Y := YX1_worthBy) dX1_worthBy_1 ?_
  refine r_iload_n (Y := YX1_worthBy) dX1_worthBy_2 rfl ?_
  refine r_ishl (Y := YX1_worthBy) dX1_worthBy_3 ?_
  refine r_ior (Y := YX1_worthBy) dX1_worthBy_4 ?_
  change R2 _ _ _ _ _ (iv (sb t l) :: _) _
  refine r_bipush (Y := YX1_worthBy) dX1_worthBy_5 ?_
  refine r_imul (Y := YX1_worthBy) dX1_worthBy_7 ?_
  refine r_iload_n (Y := YX1_worthBy) dX1_worthBy_8 rfl ?_
  refine r_iadd (Y := YX1_worthBy) dX1_worthBy_9 ?_
  refine r_istore (Y := YX1_worthBy) dX1_worthBy_10 ?_
  refine r_aload_n (Y := YX1_worthBy) dX1_worthBy_12 rfl ?_
  refine r_iload_n (Y := YX1_worthBy) dX1_worthBy_13 rfl ?_
  refine r_iload_n (Y := YX1_worthBy) dX1_worthBy_14 rfl ?_
  refine r_iV2I (Y := YX1_worthBy) mv_X1_66 dX1_worthBy_15 (PI_zz (c_X1_crosses hc hX hL hO hB hl h1 (by omega))) (by assumption) (fun σ15 z15 h15 => ?_)
  obtain ⟨rfl, h15⟩ := h15
  refine r_if_eq (Y := YX1_worthBy) (tgt := 43) dX1_worthBy_18 (by decide) (fun c18 => ?_) (fun c18 => ?_) 
  · refine r_aload_n (Y := YX1_worthBy) dX1_worthBy_43 rfl ?_
    refine r_getR (Y := YX1_worthBy) (δz := 5) fl_X1_22 dX1_worthBy_44 rfl rfl ?_
    refine r_iload (Y := YX1_worthBy) dX1_worthBy_47 rfl ?_
    refine r_iaV (Y := YX1_worthBy) (v := f (sb t l) k) dX1_worthBy_49 (hT.1) ?_
    refine r_ireturn (Y := YX1_worthBy) dX1_worthBy_50 ?_
    refine ⟨rfl, ?_⟩
    unfold wby
    first | (rw [if_pos (by omega)]) | (rw [if_neg (by omega)])
  · refine r_aload_n (Y := YX1_worthBy) dX1_worthBy_21 rfl ?_
    refine r_getR (Y := YX1_worthBy) (δz := 1) fl_X1_12 dX1_worthBy_22 rfl rfl ?_
    refine r_getR (Y := YX1_worthBy) (δz := 2) fl_X1_70 dX1_worthBy_25 rfl rfl ?_
    refine r_iload_n (Y := YX1_worthBy) dX1_worthBy_28 rfl ?_
    refine r_iaV (Y := YX1_worthBy) (v := lv xs l) dX1_worthBy_29 ((by rw [e2]; exact f2)) ?_
    refine r_aload_n (Y := YX1_worthBy) dX1_worthBy_30 rfl ?_
    refine r_getR (Y := YX1_worthBy) (δz := 5) fl_X1_22 dX1_worthBy_31 rfl rfl ?_
    refine r_iload (Y := YX1_worthBy) dX1_worthBy_34 rfl ?_
    refine r_iconst (Y := YX1_worthBy) dX1_worthBy_36 ?_
    refine r_iadd (Y := YX1_worthBy) dX1_worthBy_37 ?_
    refine r_iaV (Y := YX1_worthBy) (v := f (sb t l) (k + 1)) dX1_worthBy_38 ((by rw [← hT.2]; congr 1; omega)) ?_
    refine r_iadd (Y := YX1_worthBy) dX1_worthBy_39 ?_
    refine r_goto (Y := YX1_worthBy) (tgt := 50) dX1_worthBy_40 (by decide) ?_
    refine r_ireturn (Y := YX1_worthBy) dX1_worthBy_50 ?_
    refine ⟨rfl, ?_⟩
    unfold wby
    first | (rw [if_pos (by omega)]) | (rw [if_neg (by omega)])
set_option maxRecDepth 20000 in
theorem c_X1_mostFrom {σ : ab_S} {c : Int} {xs : List (Int × Int)} {B : Int → Int} (hc : kd_ c 1 4) (hX : CX σ c xs B) (hL : xs.length ≤ 6) (hO : OKL xs) (hB : ∀ k : Int, 0 ≤ k → k ≤ xs.length → 0 ≤ B k ∧ B k ≤ 400000) {t k : Int} {f : Int → Int → Int} (ht1 : 0 ≤ t) (ht2 : t < (2 ^ xs.length : Nat)) (h1 : 0 ≤ k) (h2 : k ≤ pc6 t) (hf : ∀ t c, 0 ≤ f t c ∧ f t c ≤ 594) (hT : (∀ l : Nat, l < xs.length → bt t l = 0 → σ (c + 5) (sb t l * 7 + k) = f (sb t l) k ∧ σ (c + 5) (sb t l * 7 + (k + 1)) = f (sb t l) (k + 1))) : C2 YX1_mostFrom 2 σ [rf c, iv t, iv k] (PI fun σ' z => σ' = σ ∧ z = mfN xs B f t k xs.length) := by
  obtain ⟨k1, k2, k3, k4⟩ := kd_crossing hc
  obtain ⟨k5, k6⟩ := kd_pairs k1
  have hpw := qp2_dec xs.length (by omega)
  have hpc := qpc_dec xs.length (by omega) t.toNat (by omega)
  rw [show ((t.toNat : Nat) : Int) = t by omega] at hpc
  refine C2.of (by decide +kernel) (Nat.le_of_ble_eq_true rfl) ?_
  refine r_iconst (Y := YX1_mostFrom) dX1_mostFrom_0 ?_
  refine r_istore_n (Y := YX1_mostFrom) dX1_mostFrom_1 ?_
  refine r_iconst (Y := YX1_mostFrom) dX1_mostFrom_2 ?_
  refine r_istore (Y := YX1_mostFrom) dX1_mostFrom_3 ?_
  suffices hloop : ∀ (r l : Nat), l + r = xs.length → R2 YX1_mostFrom 2 σ 5 [some (rf c), some (iv t), some (iv k), some (iv (mfN xs B f t k l)), some (iv l)] [] (PI fun σ' z => σ' = σ ∧ z = mfN xs B f t k xs.length) from
    R2.weak (by repeat first | exact trivial | refine And.intro rfl ?_) (hloop xs.length 0 (by omega))
  intro r
  induction r with
  | zero =>
    intro l e1
    have e2 : l = xs.length := by omega
    subst e2
    refine r_iload (Y := YX1_mostFrom) dX1_mostFrom_5 rfl ?_
    refine r_aload_n (Y := YX1_mostFrom) dX1_mostFrom_7 rfl ?_
    refine r_getR (Y := YX1_mostFrom) (δz := 1) fl_X1_12 dX1_mostFrom_8 rfl rfl ?_
    refine r_getV (Y := YX1_mostFrom) (v := (xs.length : Int)) (jz := 2) fl_X1_32 dX1_mostFrom_11 (hX.1.1) ?_
    refine r_icmp_ge (Y := YX1_mostFrom) (tgt := 45) dX1_mostFrom_14 (by decide) (fun c14 => ?_) (fun c14 => absurd c14 (by omega)) 
    refine r_iload_n (Y := YX1_mostFrom) dX1_mostFrom_45 rfl ?_
    refine r_ireturn (Y := YX1_mostFrom) dX1_mostFrom_46 ?_
    exact ⟨rfl, rfl⟩
  | succ r ih =>
    intro l e1
    have hb9 := bt_bd (s := t) (m := l) ht1 (by omega) (by omega) (by omega)
    have hmb := mfN_bd (B := B) (t := t) (c := k) (k := 6) hO hf l (by omega)
    have hwb := wby_bd (B := B) (t := t) (c := k) (k := 6) hO (show l < xs.length by omega) hf
    have hst : mfN xs B f t k (l + 1) = if bt t l = 0 then max (mfN xs B f t k l) (wby xs B f t k l) else mfN xs B f t k l := rfl
    have ih := ih (l + 1) (by omega)
    rw [hst] at ih
    refine r_iload (Y := YX1_mostFrom) dX1_mostFrom_5 rfl ?_
    refine r_aload_n (Y := YX1_mostFrom) dX1_mostFrom_7 rfl ?_
    refine r_getR (Y := YX1_mostFrom) (δz := 1) fl_X1_12 dX1_mostFrom_8 rfl rfl ?_
    refine r_getV (Y := YX1_mostFrom) (v := (xs.length : Int)) (jz := 2) fl_X1_32 dX1_mostFrom_11 (hX.1.1) ?_
    refine r_icmp_ge (Y := YX1_mostFrom) (tgt := 45) dX1_mostFrom_14 (by decide) (fun c14 => absurd c14 (by omega)) (fun c14 => ?_) 
    refine r_iload_n (Y := YX1_mostFrom) dX1_mostFrom_17 rfl ?_
    refine r_iload (Y := YX1_mostFrom) dX1_mostFrom_18 rfl ?_
    refine r_ishr (Y := YX1_mostFrom) dX1_mostFrom_20 ?_
    refine r_iconst (Y := YX1_mostFrom) dX1_mostFrom_21 ?_
    refine r_iand (Y := YX1_mostFrom) dX1_mostFrom_22 ?_
    change R2 _ _ _ _ _ (iv (bt t l) :: _) _
    refine r_if_ne (Y := YX1_mostFrom) (tgt := 39) dX1_mostFrom_23 (by decide) (fun c23 => ?_) (fun c23 => ?_) 
    · refine r_iinc (Y := YX1_mostFrom) dX1_mostFrom_39 rfl ?_
      refine r_goto (Y := YX1_mostFrom) (tgt := 5) dX1_mostFrom_42 (by decide) ?_
      first
      | (rw [if_pos (by omega)] at ih; exact R2.weak (by repeat first | exact trivial | refine And.intro rfl ?_) ih)
      | (rw [if_neg (by omega)] at ih; exact R2.weak (by repeat first | exact trivial | refine And.intro rfl ?_) ih)
    · refine r_iload_n (Y := YX1_mostFrom) dX1_mostFrom_26 rfl ?_
      refine r_aload_n (Y := YX1_mostFrom) dX1_mostFrom_27 rfl ?_
      refine r_iload (Y := YX1_mostFrom) dX1_mostFrom_28 rfl ?_
      refine r_iload_n (Y := YX1_mostFrom) dX1_mostFrom_30 rfl ?_
      refine r_iload_n (Y := YX1_mostFrom) dX1_mostFrom_31 rfl ?_
      refine r_iV3I (Y := YX1_mostFrom) mv_X1_54 dX1_mostFrom_32 (c_X1_worthBy hc hX hL hO hB ht1 ht2 h1 h2 (by omega) (by omega) (hT l (by omega) (by omega))) (by assumption) (fun σ32 z32 h32 => ?_)
      obtain ⟨rfl, rfl⟩ := h32
      refine r_iS2I (Y := YX1_mostFrom) ms_X1_58 dX1_mostFrom_35 (c_J9_max_7cf53 _ _ _ (by omega) (by omega) (by omega) (by omega)) (fun σ35 z35 h35 => ?_)
      obtain ⟨rfl, rfl⟩ := h35
      refine r_istore_n (Y := YX1_mostFrom) dX1_mostFrom_38 ?_
      refine r_iinc (Y := YX1_mostFrom) dX1_mostFrom_39 rfl ?_
      refine r_goto (Y := YX1_mostFrom) (tgt := 5) dX1_mostFrom_42 (by decide) ?_
      first
      | (rw [if_pos (by omega)] at ih; exact R2.weak (by repeat first | exact trivial | refine And.intro rfl ?_) ih)
      | (rw [if_neg (by omega)] at ih; exact R2.weak (by repeat first | exact trivial | refine And.intro rfl ?_) ih)
set_option maxRecDepth 20000 in
theorem c_X1_firstBest {σ : ab_S} {c : Int} {xs : List (Int × Int)} {B : Int → Int} (hc : kd_ c 1 4) (hX : CX σ c xs B) (hL : xs.length ≤ 6) (hO : OKL xs) (hB : ∀ k : Int, 0 ≤ k → k ≤ xs.length → 0 ≤ B k ∧ B k ≤ 400000) {t k : Int} {f : Int → Int → Int} (ht1 : 0 ≤ t) (ht2 : t < (2 ^ xs.length : Nat)) (h1 : 0 ≤ k) (h2 : k ≤ pc6 t) (hf : ∀ t c, 0 ≤ f t c ∧ f t c ≤ 594) {v : Int} (hv1 : 0 ≤ v) (hv2 : v ≤ 1000) (hv : σ (c + 5) (t * 7 + k) = v) (hT : (∀ l : Nat, l < xs.length → bt t l = 0 → σ (c + 5) (sb t l * 7 + k) = f (sb t l) k ∧ σ (c + 5) (sb t l * 7 + (k + 1)) = f (sb t l) (k + 1))) : C2 YX1_firstBest 2 σ [rf c, iv t, iv k] (PI fun σ' z => σ' = σ ∧ z = (fstN (fbp xs B f t k v) xs.length 0 : Nat)) := by
  obtain ⟨k1, k2, k3, k4⟩ := kd_crossing hc
  obtain ⟨k5, k6⟩ := kd_pairs k1
  have hpw := qp2_dec xs.length (by omega)
  have hpc := qpc_dec xs.length (by omega) t.toNat (by omega)
  rw [show ((t.toNat : Nat) : Int) = t by omega] at hpc
  refine C2.of (by decide +kernel) (Nat.le_of_ble_eq_true rfl) ?_
  refine r_aload_n (Y := YX1_firstBest) dX1_firstBest_0 rfl ?_
  refine r_getR (Y := YX1_firstBest) (δz := 5) fl_X1_22 dX1_firstBest_1 rfl rfl ?_
  refine r_iload_n (Y := YX1_firstBest) dX1_firstBest_4 rfl ?_
  refine r_bipush (Y := YX1_firstBest) dX1_firstBest_5 ?_
  refine r_imul (Y := YX1_firstBest) dX1_firstBest_7 ?_
  refine r_iload_n (Y := YX1_firstBest) dX1_firstBest_8 rfl ?_
  refine r_iadd (Y := YX1_firstBest) dX1_firstBest_9 ?_
  refine r_iaV (Y := YX1_firstBest) (v := v) dX1_firstBest_10 (hv) ?_
  refine r_istore_n (Y := YX1_firstBest) dX1_firstBest_11 ?_
  refine r_iconst (Y := YX1_firstBest) dX1_firstBest_12 ?_
  refine r_istore (Y := YX1_firstBest) dX1_firstBest_13 ?_
  suffices hloop : ∀ (r l : Nat), l + r = xs.length → fstN (fbp xs B f t k v) r l = fstN (fbp xs B f t k v) xs.length 0 → R2 YX1_firstBest 2 σ 15 [some (rf c), some (iv t), some (iv k), some (iv v), some (iv l)] [] (PI fun σ' z => σ' = σ ∧ z = (fstN (fbp xs B f t k v) xs.length 0 : Nat)) from
    R2.weak (by repeat first | exact trivial | refine And.intro rfl ?_) (hloop xs.length 0 (by omega) rfl)
  intro r
  induction r with
  | zero =>
    intro l e1 e2
    refine r_iload (Y := YX1_firstBest) dX1_firstBest_15 rfl ?_
    refine r_aload_n (Y := YX1_firstBest) dX1_firstBest_17 rfl ?_
    refine r_getR (Y := YX1_firstBest) (δz := 1) fl_X1_12 dX1_firstBest_18 rfl rfl ?_
    refine r_getV (Y := YX1_firstBest) (v := (xs.length : Int)) (jz := 2) fl_X1_32 dX1_firstBest_21 (hX.1.1) ?_
    refine r_icmp_ge (Y := YX1_firstBest) (tgt := 57) dX1_firstBest_24 (by decide) (fun c24 => ?_) (fun c24 => absurd c24 (by omega)) 
    refine r_iconst (Y := YX1_firstBest) dX1_firstBest_57 ?_
    refine r_ireturn (Y := YX1_firstBest) dX1_firstBest_58 ?_
    exact ⟨rfl, by rw [← e2]; rfl⟩
  | succ r ih =>
    intro l e1 e2
    have hb9 := bt_bd (s := t) (m := l) ht1 (by omega) (by omega) (by omega)
    have hwb := wby_bd (B := B) (t := t) (c := k) (k := 6) hO (show l < xs.length by omega) hf
    have e3 : (if fbp xs B f t k v l then l else fstN (fbp xs B f t k v) r (l + 1)) = fstN (fbp xs B f t k v) xs.length 0 := e2
    refine r_iload (Y := YX1_firstBest) dX1_firstBest_15 rfl ?_
    refine r_aload_n (Y := YX1_firstBest) dX1_firstBest_17 rfl ?_
    refine r_getR (Y := YX1_firstBest) (δz := 1) fl_X1_12 dX1_firstBest_18 rfl rfl ?_
    refine r_getV (Y := YX1_firstBest) (v := (xs.length : Int)) (jz := 2) fl_X1_32 dX1_firstBest_21 (hX.1.1) ?_
    refine r_icmp_ge (Y := YX1_firstBest) (tgt := 57) dX1_firstBest_24 (by decide) (fun c24 => absurd c24 (by omega)) (fun c24 => ?_) 
    refine r_iload_n (Y := YX1_firstBest) dX1_firstBest_27 rfl ?_
    refine r_iload (Y := YX1_firstBest) dX1_firstBest_28 rfl ?_
    refine r_ishr (Y := YX1_firstBest) dX1_firstBest_30 ?_
    refine r_iconst (Y := YX1_firstBest) dX1_firstBest_31 ?_
    refine r_iand (Y := YX1_firstBest) dX1_firstBest_32 ?_
    change R2 _ _ _ _ _ (iv (bt t l) :: _) _
    refine r_if_ne (Y := YX1_firstBest) (tgt := 51) dX1_firstBest_33 (by decide) (fun c33 => ?_) (fun c33 => ?_) 
    · refine r_iinc (Y := YX1_firstBest) dX1_firstBest_51 rfl ?_
      refine r_goto (Y := YX1_firstBest) (tgt := 15) dX1_firstBest_54 (by decide) ?_
      have hno : ¬ fbp xs B f t k v l = true := by unfold fbp; rw [Bool.and_eq_true, decide_eq_true_eq, decide_eq_true_eq]; omega
      rw [if_neg hno] at e3
      exact R2.weak (by repeat first | exact trivial | refine And.intro rfl ?_) (ih (l + 1) (by omega) e3)
    · refine r_aload_n (Y := YX1_firstBest) dX1_firstBest_36 rfl ?_
      refine r_iload (Y := YX1_firstBest) dX1_firstBest_37 rfl ?_
      refine r_iload_n (Y := YX1_firstBest) dX1_firstBest_39 rfl ?_
      refine r_iload_n (Y := YX1_firstBest) dX1_firstBest_40 rfl ?_
      refine r_iV3I (Y := YX1_firstBest) mv_X1_54 dX1_firstBest_41 (c_X1_worthBy hc hX hL hO hB ht1 ht2 h1 h2 (by omega) (by omega) (hT l (by omega) (by omega))) (by assumption) (fun σ41 z41 h41 => ?_)
      obtain ⟨rfl, rfl⟩ := h41
      refine r_iload_n (Y := YX1_firstBest) dX1_firstBest_44 rfl ?_
      refine r_icmp_ne (Y := YX1_firstBest) (tgt := 51) dX1_firstBest_45 (by decide) (fun c45 => ?_) (fun c45 => ?_) 
      · refine r_iinc (Y := YX1_firstBest) dX1_firstBest_51 rfl ?_
        refine r_goto (Y := YX1_firstBest) (tgt := 15) dX1_firstBest_54 (by decide) ?_
        have hno : ¬ fbp xs B f t k v l = true := by unfold fbp; rw [Bool.and_eq_true, decide_eq_true_eq, decide_eq_true_eq]; omega
        rw [if_neg hno] at e3
        exact R2.weak (by repeat first | exact trivial | refine And.intro rfl ?_) (ih (l + 1) (by omega) e3)
      · refine r_iload (Y := YX1_firstBest) dX1_firstBest_48 rfl ?_
        refine r_ireturn (Y := YX1_firstBest) dX1_firstBest_50 ?_
        have hyes : fbp xs B f t k v l = true := by unfold fbp; rw [Bool.and_eq_true, decide_eq_true_eq, decide_eq_true_eq]; omega
        rw [if_pos hyes] at e3
        exact ⟨rfl, by rw [e3]⟩
set_option maxRecDepth 20000 in
theorem c_X1_most {σ : ab_S} {c : Int} (hc : kd_ c 1 4) : C2 YX1_most 0 σ [rf c] (PI fun σ' z => σ' = σ ∧ z = σ (c + 5) 0) := by
  obtain ⟨k1, k2, k3, k4⟩ := kd_crossing hc
  obtain ⟨k5, k6⟩ := kd_pairs k1
  refine C2.of (by decide +kernel) (Nat.le_of_ble_eq_true rfl) ?_
  refine r_aload_n (Y := YX1_most) dX1_most_0 rfl ?_
  refine r_getR (Y := YX1_most) (δz := 5) fl_X1_22 dX1_most_1 rfl rfl ?_
  refine r_iconst (Y := YX1_most) dX1_most_4 ?_
  refine r_iaload (Y := YX1_most) dX1_most_5 ?_
  refine r_ireturn (Y := YX1_most) dX1_most_6 ?_
  exact ⟨rfl, rfl⟩
set_option maxRecDepth 20000 in
theorem c_X1_turn {σ : ab_S} {c i : Int} (hc : kd_ c 1 4) (h1 : 0 ≤ i) (h2 : i < 6) : C2 YX1_turn 0 σ [rf c, iv i] (PI fun σ' z => σ' = σ ∧ z = σ (c + 6) i) := by
  obtain ⟨k1, k2, k3, k4⟩ := kd_crossing hc
  obtain ⟨k5, k6⟩ := kd_pairs k1
  refine C2.of (by decide +kernel) (Nat.le_of_ble_eq_true rfl) ?_
  refine r_aload_n (Y := YX1_turn) dX1_turn_0 rfl ?_
  refine r_getR (Y := YX1_turn) (δz := 6) fl_X1_25 dX1_turn_1 rfl rfl ?_
  refine r_iload_n (Y := YX1_turn) dX1_turn_4 rfl ?_
  refine r_iaload (Y := YX1_turn) dX1_turn_5 ?_
  refine r_ireturn (Y := YX1_turn) dX1_turn_6 ?_
  exact ⟨rfl, rfl⟩
/-- the table, whole -/
def TBL (σ : ab_S) (c : Int) (xs : List (Int × Int)) (B : Int → Int) (lo : Int) : Prop := ∀ t k : Int, lo ≤ t → t < (2 ^ xs.length : Nat) → 0 ≤ k → k ≤ pc6 t → σ (c + 5) (t * 7 + k) = VV xs B (xs.length - (pc6 t).toNat) t k
theorem TBL.at {σ : ab_S} {c t k : Int} {xs : List (Int × Int)} {B : Int → Int} (h : TBL σ c xs B (t + 1)) (hL : xs.length ≤ 6) (ht1 : 0 ≤ t) (ht2 : t < (2 ^ xs.length : Nat)) (h1 : 0 ≤ k) (h2 : k ≤ pc6 t) : ∀ l : Nat, l < xs.length → bt t l = 0 → σ (c + 5) (sb t l * 7 + k) = VV xs B (xs.length - (pc6 t).toNat - 1) (sb t l) k ∧ σ (c + 5) (sb t l * 7 + (k + 1)) = VV xs B (xs.length - (pc6 t).toNat - 1) (sb t l) (k + 1) := by
  intro l hl hb
  have hpw := qp2_dec xs.length (by omega)
  have hsb := qsb_dec xs.length (by omega) t.toNat (by omega) l hl (by rw [show ((t.toNat : Nat) : Int) = t by omega]; exact hb)
  rw [show ((t.toNat : Nat) : Int) = t by omega] at hsb
  have e : xs.length - (pc6 t).toNat - 1 = xs.length - (pc6 (sb t l)).toNat := by omega
  rw [e]
  exact ⟨h _ _ (by omega) hsb.2.1 h1 (by omega), h _ _ (by omega) hsb.2.1 (by omega) (by omega)⟩
theorem fstN_bd {p : Nat → Bool} : ∀ (r l : Nat), 0 < l + r → fstN p r l < l + r
  | 0, l, h => by unfold fstN; omega
  | r + 1, l, h => by
    unfold fstN
    split
    · omega
    · have := fstN_bd (p := p) r (l + 1) (by omega)
      omega
theorem fstN_ok {p : Nat → Bool} : ∀ (r l : Nat), (∃ j, l ≤ j ∧ j < l + r ∧ p j = true) → p (fstN p r l) = true
  | 0, l, ⟨j, h1, h2, _⟩ => by omega
  | r + 1, l, ⟨j, h1, h2, h3⟩ => by
    unfold fstN
    by_cases e : p l = true
    · rw [if_pos e]; exact e
    · rw [if_neg e]
      refine fstN_ok r (l + 1) ⟨j, ?_, by omega, h3⟩
      rcases Nat.lt_or_ge l j with q | q
      · exact q
      · exact absurd ((show l = j by omega) ▸ h3) e
/-- the most is reached by one of the loads -/
theorem mfN_hit {xs : List (Int × Int)} {B : Int → Int} {f : Int → Int → Int} {t c : Int} (hw : ∀ l : Nat, l < xs.length → bt t l = 0 → 0 ≤ wby xs B f t c l) : ∀ l : Nat, l ≤ xs.length → (∃ j, j < l ∧ bt t j = 0) → ∃ j, j < l ∧ bt t j = 0 ∧ wby xs B f t c j = mfN xs B f t c l
  | 0, _, ⟨j, h, _⟩ => by omega
  | l + 1, hl, hex => by
    unfold mfN
    by_cases e : bt t l = 0
    · rw [if_pos e]
      by_cases e2 : mfN xs B f t c l ≤ wby xs B f t c l
      · exact ⟨l, by omega, e, by omega⟩
      · have hex2 : ∃ j, j < l ∧ bt t j = 0 := by
          apply Decidable.byContradiction
          intro hno
          have h0 : mfN xs B f t c l = 0 := by
            have key : ∀ q : Nat, q ≤ l → mfN xs B f t c q = 0 := by
              intro q
              induction q with
              | zero => intro _; rfl
              | succ q ih =>
                intro hq
                unfold mfN
                rw [if_neg (fun h9 => hno ⟨q, by omega, h9⟩)]
                exact ih (by omega)
            exact key l (Nat.le_refl l)
          have := hw l (by omega) e
          omega
        obtain ⟨j, h1, h2, h3⟩ := mfN_hit hw l (by omega) hex2
        exact ⟨j, by omega, h2, by omega⟩
    · rw [if_neg e]
      obtain ⟨j, h1, h2⟩ := hex
      have : j ≠ l := fun h9 => e (h9 ▸ h2)
      obtain ⟨j2, h3, h4, h5⟩ := mfN_hit hw l (by omega) ⟨j, by omega, h2⟩
      exact ⟨j2, by omega, h4, h5⟩
theorem some_bit : ∀ n : Nat, n < 7 → ∀ t : Nat, t < 2 ^ n → pc6 t < n → ∃ l : Nat, l < n ∧ bt t l = 0 := by decide +kernel
theorem nxt_ok {xs : List (Int × Int)} {B : Int → Int} {t c : Int} {k : Nat} (hL : xs.length ≤ 6) (hO : OKL xs) (ht1 : 0 ≤ t) (ht2 : t < (2 ^ xs.length : Nat)) (hp : pc6 t + (k + 1) = xs.length) : nxt xs B k t c < xs.length ∧ bt t (nxt xs B k t c) = 0 := by
  have hpw := qp2_dec xs.length (by omega)
  have hb := some_bit xs.length (by omega) t.toNat (by omega) (by rw [show ((t.toNat : Nat) : Int) = t by omega]; omega)
  rw [show ((t.toNat : Nat) : Int) = t by omega] at hb
  refine ⟨by have := fstN_bd (p := fbp xs B (VV xs B k) t c (VV xs B (k + 1) t c)) xs.length 0 (by omega); unfold nxt; omega, ?_⟩
  obtain ⟨j, h1, h2, h3⟩ := mfN_hit (B := B) (f := VV xs B k) (t := t) (c := c) (fun l hl _ => (wby_bd hO hl (VV_bd hO k)).1) xs.length (Nat.le_refl _) hb
  have h4 := fstN_ok (p := fbp xs B (VV xs B k) t c (VV xs B (k + 1) t c)) xs.length 0 ⟨j, by omega, by omega, by unfold fbp; rw [Bool.and_eq_true, decide_eq_true_eq, decide_eq_true_eq]; exact ⟨h2, h3⟩⟩
  unfold fbp at h4
  rw [Bool.and_eq_true, decide_eq_true_eq] at h4
  exact h4.1
set_option maxRecDepth 20000 in
theorem c_X1_findOrder {σ : ab_S} {c : Int} {xs : List (Int × Int)} {B : Int → Int} (hc : kd_ c 1 4) (hX : CX σ c xs B) (hL : xs.length ≤ 6) (hO : OKL xs) (hB : ∀ k : Int, 0 ≤ k → k ≤ xs.length → 0 ≤ B k ∧ B k ≤ 400000) (hT : TBL σ c xs B 0) : C2 YX1_findOrder 3 σ [rf c] (PV fun σ' => (∀ (i : Nat) (v : Int), (ords xs B xs.length 0 0)[i]? = some v → σ' (c + 6) i = v) ∧ ∀ k i : Int, k ≠ c + 6 → σ' k i = σ k i) := by
  obtain ⟨k1, k2, k3, k4⟩ := kd_crossing hc
  obtain ⟨k5, k6⟩ := kd_pairs k1
  have hpw := qp2_dec xs.length (by omega)
  refine C2.of (by decide +kernel) (Nat.le_of_ble_eq_true rfl) ?_
  refine r_iconst (Y := YX1_findOrder) dX1_findOrder_0 ?_
  refine r_istore_n (Y := YX1_findOrder) dX1_findOrder_1 ?_
  refine r_iconst (Y := YX1_findOrder) dX1_findOrder_2 ?_
  refine r_istore_n (Y := YX1_findOrder) dX1_findOrder_3 ?_
  refine r_iconst (Y := YX1_findOrder) dX1_findOrder_4 ?_
  refine r_istore_n (Y := YX1_findOrder) dX1_findOrder_5 ?_
  suffices hloop : ∀ (r j : Nat) (t k : Int) (τ : ab_S), j + r = xs.length → 0 ≤ t → t < (2 ^ xs.length : Nat) → pc6 t = j → 0 ≤ k → k ≤ j → (∀ (i : Nat) (v : Int), i < j → (ords xs B xs.length 0 0)[i]? = some v → τ (c + 6) i = v) → (ords xs B xs.length 0 0).drop j = ords xs B r t k → (∀ k i : Int, k ≠ c + 6 → τ k i = σ k i) → R2 YX1_findOrder 3 τ 6 [some (rf c), some (iv t), some (iv k), some (iv j), none] [] (PV fun σ' => (∀ (i : Nat) (v : Int), (ords xs B xs.length 0 0)[i]? = some v → σ' (c + 6) i = v) ∧ ∀ k i : Int, k ≠ c + 6 → σ' k i = σ k i) from
    R2.weak (by repeat first | exact trivial | refine And.intro rfl ?_) (hloop xs.length 0 0 0 σ (by omega) (by omega) (by omega) (by decide) (by omega) (by omega) (fun i v h => by omega) (by rw [List.drop_zero]) (fun _ _ _ => rfl))
  intro r
  induction r with
  | zero =>
    intro j t k τ e1 e2 e3 e4 e5 e6 e7 e8 hF
    have hXt : CX τ c xs B := hX.kept (fun q i _ _ => hF q i (by omega))
    refine r_iload_n (Y := YX1_findOrder) dX1_findOrder_6 rfl ?_
    refine r_aload_n (Y := YX1_findOrder) dX1_findOrder_7 rfl ?_
    refine r_getR (Y := YX1_findOrder) (δz := 1) fl_X1_12 dX1_findOrder_8 rfl rfl ?_
    refine r_getV (Y := YX1_findOrder) (v := (xs.length : Int)) (jz := 2) fl_X1_32 dX1_findOrder_11 (hXt.1.1) ?_
    refine r_icmp_ge (Y := YX1_findOrder) (tgt := 59) dX1_findOrder_14 (by decide) (fun c14 => ?_) (fun c14 => absurd c14 (by omega)) 
    refine r_return (Y := YX1_findOrder) dX1_findOrder_59 ?_
    refine ⟨fun i v hv => e7 i v ?_ hv, hF⟩
    have h9 : (ords xs B xs.length 0 0).drop j = [] := e8
    have h10 := List.drop_eq_nil_iff.mp h9
    have h11 := (List.getElem?_eq_some_iff.mp hv).1
    omega
  | succ r ih =>
    intro j t k τ e1 e2 e3 e4 e5 e6 e7 e8 hF
    have hXt : CX τ c xs B := hX.kept (fun q i _ _ => hF q i (by omega))
    have hTt : TBL τ c xs B 0 := fun t k a1 a2 a3 a4 => by rw [hF _ _ (by omega)]; exact hT t k a1 a2 a3 a4
    have hn := nxt_ok (xs := xs) (B := B) (t := t) (c := k) (k := r) hL hO e2 e3 (by omega)
    have hsb := qsb_dec xs.length (by omega) t.toNat (by omega) (nxt xs B r t k) hn.1 (by rw [show ((t.toNat : Nat) : Int) = t by omega]; exact hn.2)
    rw [show ((t.toNat : Nat) : Int) = t by omega] at hsb
    have er : xs.length - (pc6 t).toNat = r + 1 := by omega
    have hv9 : τ (c + 5) (t * 7 + k) = VV xs B (r + 1) t k := by rw [hTt t k e2 e3 e5 (by omega), er]
    have hT9 := TBL.at (σ := τ) (c := c) (t := t) (k := k) (B := B) (fun t k a1 a2 a3 a4 => hTt t k (by omega) a2 a3 a4) hL e2 e3 e5 (by omega)
    rw [er, Nat.add_sub_cancel] at hT9
    have hVb := VV_bd (B := B) hO (r + 1) t k
    have hfb : ∀ t c, 0 ≤ VV xs B r t c ∧ VV xs B r t c ≤ 594 := fun t c => by have := VV_bd (B := B) hO r t c; omega
    have e9 : (ords xs B xs.length 0 0).drop j = (nxt xs B r t k : Int) :: ords xs B r (sb t (nxt xs B r t k)) (if lw xs (nxt xs B r t k) ≤ B k then k + 1 else k) := e8
    have e10 : (ords xs B xs.length 0 0)[j]? = some (nxt xs B r t k : Int) := by
      have := congrArg (fun l => l[0]?) e9
      try dsimp only at this
      rw [List.getElem?_drop, Nat.add_zero] at this
      exact this
    have e11 : (ords xs B xs.length 0 0).drop (j + 1) = ords xs B r (sb t (nxt xs B r t k)) (if lw xs (nxt xs B r t k) ≤ B k then k + 1 else k) := by
      have := congrArg (List.drop 1) e9
      rw [List.drop_drop] at this
      exact this
    have hlw := lw_bd hO hn.1
    have hBk := hB k e5 (by omega)
    refine r_iload_n (Y := YX1_findOrder) dX1_findOrder_6 rfl ?_
    refine r_aload_n (Y := YX1_findOrder) dX1_findOrder_7 rfl ?_
    refine r_getR (Y := YX1_findOrder) (δz := 1) fl_X1_12 dX1_findOrder_8 rfl rfl ?_
    refine r_getV (Y := YX1_findOrder) (v := (xs.length : Int)) (jz := 2) fl_X1_32 dX1_findOrder_11 (hXt.1.1) ?_
    refine r_icmp_ge (Y := YX1_findOrder) (tgt := 59) dX1_findOrder_14 (by decide) (fun c14 => absurd c14 (by omega)) (fun c14 => ?_) 
    refine r_aload_n (Y := YX1_findOrder) dX1_findOrder_17 rfl ?_
    refine r_iload_n (Y := YX1_findOrder) dX1_findOrder_18 rfl ?_
    refine r_iload_n (Y := YX1_findOrder) dX1_findOrder_19 rfl ?_
    refine r_iV2I (Y := YX1_findOrder) mv_X1_73 dX1_findOrder_20 (c_X1_firstBest hc hXt hL hO hB e2 e3 e5 (by omega) hfb (by omega) (by omega) hv9 hT9) (by assumption) (fun σ20 z20 h20 => ?_)
    obtain ⟨rfl, rfl⟩ := h20
    change R2 _ _ _ _ _ (iv (nxt xs B r t k : Int) :: _) _
    refine r_istore (Y := YX1_findOrder) dX1_findOrder_23 ?_
    refine r_aload_n (Y := YX1_findOrder) dX1_findOrder_25 rfl ?_
    refine r_getR (Y := YX1_findOrder) (δz := 6) fl_X1_25 dX1_findOrder_26 rfl rfl ?_
    refine r_iload_n (Y := YX1_findOrder) dX1_findOrder_29 rfl ?_
    refine r_iload (Y := YX1_findOrder) dX1_findOrder_30 rfl ?_
    refine r_iastore (Y := YX1_findOrder) dX1_findOrder_32 ?_
    refine r_iload_n (Y := YX1_findOrder) dX1_findOrder_33 rfl ?_
    refine r_iconst (Y := YX1_findOrder) dX1_findOrder_34 ?_
    refine r_iload (Y := YX1_findOrder) dX1_findOrder_35 rfl ?_
    refine r_ishl (Y := YX1_findOrder) dX1_findOrder_37 ?_
    refine r_ior (Y := YX1_findOrder) dX1_findOrder_38 ?_
    change R2 _ _ _ _ _ (iv (sb t (nxt xs B r t k)) :: _) _
    refine r_istore_n (Y := YX1_findOrder) dX1_findOrder_39 ?_
    refine r_aload_n (Y := YX1_findOrder) dX1_findOrder_40 rfl ?_
    refine r_iload (Y := YX1_findOrder) dX1_findOrder_41 rfl ?_
    refine r_iload_n (Y := YX1_findOrder) dX1_findOrder_43 rfl ?_
    refine r_iV2I (Y := YX1_findOrder) mv_X1_66 dX1_findOrder_44 (PI_zz (c_X1_crosses hc (l := nxt xs B r t k) (hXt.kept (fun q i _ _ => by (try delta up); (try delta cpy); (try dsimp only); repeat (first | rw [if_pos (by omega)] | rw [if_neg (by omega)]); try (first | rfl | assumption | omega))) hL hO hB hn.1 e5 (by omega))) (by assumption) (fun σ44 z44 h44 => ?_)
    obtain ⟨rfl, h44⟩ := h44
    refine r_if_eq (Y := YX1_findOrder) (tgt := 53) dX1_findOrder_47 (by decide) (fun c47 => ?_) (fun c47 => ?_) 
    · refine r_iinc (Y := YX1_findOrder) dX1_findOrder_53 rfl ?_
      refine r_goto (Y := YX1_findOrder) (tgt := 6) dX1_findOrder_56 (by decide) ?_
      first
      | (rw [if_pos (by omega)] at e11
         refine R2.weak (by repeat first | exact trivial | refine And.intro rfl ?_) (ih (j + 1) (sb t (nxt xs B r t k)) _ _ (by omega) (by omega) hsb.2.1 (by omega) (by omega) (by omega) (fun i v hi hv => ?_) e11 (fun q i h9 => by rw [← hF q i h9]; exact (by (try delta up); (try delta cpy); (try dsimp only); repeat (first | rw [if_pos (by omega)] | rw [if_neg (by omega)]); try (first | rfl | assumption | omega))))
         by_cases ei : i = j
         · subst ei; rw [e10] at hv; cases hv; exact (by (try delta up); (try delta cpy); (try dsimp only); repeat (first | rw [if_pos (by omega)] | rw [if_neg (by omega)]); try (first | rfl | assumption | omega))
         · rw [← e7 i v (by omega) hv]; exact (by (try delta up); (try delta cpy); (try dsimp only); repeat (first | rw [if_pos (by omega)] | rw [if_neg (by omega)]); try (first | rfl | assumption | omega))
        )
      | (rw [if_neg (by omega)] at e11
         refine R2.weak (by repeat first | exact trivial | refine And.intro rfl ?_) (ih (j + 1) (sb t (nxt xs B r t k)) _ _ (by omega) (by omega) hsb.2.1 (by omega) (by omega) (by omega) (fun i v hi hv => ?_) e11 (fun q i h9 => by rw [← hF q i h9]; exact (by (try delta up); (try delta cpy); (try dsimp only); repeat (first | rw [if_pos (by omega)] | rw [if_neg (by omega)]); try (first | rfl | assumption | omega))))
         by_cases ei : i = j
         · subst ei; rw [e10] at hv; cases hv; exact (by (try delta up); (try delta cpy); (try dsimp only); repeat (first | rw [if_pos (by omega)] | rw [if_neg (by omega)]); try (first | rfl | assumption | omega))
         · rw [← e7 i v (by omega) hv]; exact (by (try delta up); (try delta cpy); (try dsimp only); repeat (first | rw [if_pos (by omega)] | rw [if_neg (by omega)]); try (first | rfl | assumption | omega))
        )
    · refine r_iinc (Y := YX1_findOrder) dX1_findOrder_50 rfl ?_
      refine r_iinc (Y := YX1_findOrder) dX1_findOrder_53 rfl ?_
      refine r_goto (Y := YX1_findOrder) (tgt := 6) dX1_findOrder_56 (by decide) ?_
      first
      | (rw [if_pos (by omega)] at e11
         refine R2.weak (by repeat first | exact trivial | refine And.intro rfl ?_) (ih (j + 1) (sb t (nxt xs B r t k)) _ _ (by omega) (by omega) hsb.2.1 (by omega) (by omega) (by omega) (fun i v hi hv => ?_) e11 (fun q i h9 => by rw [← hF q i h9]; exact (by (try delta up); (try delta cpy); (try dsimp only); repeat (first | rw [if_pos (by omega)] | rw [if_neg (by omega)]); try (first | rfl | assumption | omega))))
         by_cases ei : i = j
         · subst ei; rw [e10] at hv; cases hv; exact (by (try delta up); (try delta cpy); (try dsimp only); repeat (first | rw [if_pos (by omega)] | rw [if_neg (by omega)]); try (first | rfl | assumption | omega))
         · rw [← e7 i v (by omega) hv]; exact (by (try delta up); (try delta cpy); (try dsimp only); repeat (first | rw [if_pos (by omega)] | rw [if_neg (by omega)]); try (first | rfl | assumption | omega))
        )
      | (rw [if_neg (by omega)] at e11
         refine R2.weak (by repeat first | exact trivial | refine And.intro rfl ?_) (ih (j + 1) (sb t (nxt xs B r t k)) _ _ (by omega) (by omega) hsb.2.1 (by omega) (by omega) (by omega) (fun i v hi hv => ?_) e11 (fun q i h9 => by rw [← hF q i h9]; exact (by (try delta up); (try delta cpy); (try dsimp only); repeat (first | rw [if_pos (by omega)] | rw [if_neg (by omega)]); try (first | rfl | assumption | omega))))
         by_cases ei : i = j
         · subst ei; rw [e10] at hv; cases hv; exact (by (try delta up); (try delta cpy); (try dsimp only); repeat (first | rw [if_pos (by omega)] | rw [if_neg (by omega)]); try (first | rfl | assumption | omega))
         · rw [← e7 i v (by omega) hv]; exact (by (try delta up); (try delta cpy); (try dsimp only); repeat (first | rw [if_pos (by omega)] | rw [if_neg (by omega)]); try (first | rfl | assumption | omega))
        )
theorem bears_bd {A : AB} {x : Int} (h : WA A) (hx : 0 ≤ x) : 0 ≤ bearsA A x ∧ bearsA A x ≤ 400000 := glr_bd (fun i h1 h2 => by have := pow_bd h hx h1 h2; omega) 4 (Nat.le_refl 4)
theorem VV_tab {xs : List (Int × Int)} {B : Int → Int} {t k : Int} (hL : xs.length ≤ 6) (ht1 : 0 ≤ t) (ht2 : t < (2 ^ xs.length : Nat)) : mfN xs B (VV xs B (xs.length - (pc6 t).toNat - 1)) t k xs.length = VV xs B (xs.length - (pc6 t).toNat) t k := by
  have hpc := qpc_dec xs.length (by omega) t.toNat (by omega)
  rw [show ((t.toNat : Nat) : Int) = t by omega] at hpc
  by_cases e : pc6 t = xs.length
  · have e2 := hpc.2.2.1 e
    rw [show xs.length - (pc6 t).toNat = 0 by omega]
    refine mfN_full (fun l hl => ?_) xs.length (Nat.le_refl _)
    rw [e2]
    exact full_dec xs.length (by omega) l hl
  · have e3 : xs.length - (pc6 t).toNat = (xs.length - (pc6 t).toNat - 1) + 1 := by omega
    conv => rhs; rw [e3]
    rfl
set_option maxRecDepth 20000 in
theorem c_X1_reckon {σ : ab_S} {c a q : Int} {A : AB} {xs : List (Int × Int)} (hc : kd_ c 1 4) (ha : kd_ a 0 8) (hq : kd_ q 3 3) (hA : RA σ a A) (hW : WA A) (hR : RP σ q xs) (hL : xs.length ≤ 6) (hO : OKL xs) (hp1 : a + 22 < c ∨ c + 6 < a) (hp2 : q + 2 < c ∨ c + 6 < q) : C2 YX1_reckon 4 σ [rf c, rf a, rf q] (PV fun σ' => σ' (c + 5) 0 = VV xs (bearsA A) xs.length 0 0 ∧ (∀ (i : Nat) (v : Int), (ords xs (bearsA A) xs.length 0 0)[i]? = some v → σ' (c + 6) i = v) ∧ ∀ k i : Int, k < c ∨ c + 6 < k → k ≠ a + 6 → σ' k i = σ k i) := by
  obtain ⟨k1, k2, k3, k4⟩ := kd_crossing hc
  obtain ⟨k5, k6⟩ := kd_pairs k1
  have hpw := qp2_dec xs.length (by omega)
  have hBB : ∀ k : Int, 0 ≤ k → k ≤ xs.length → 0 ≤ bearsA A k ∧ bearsA A k ≤ 400000 := fun k h1 _ => bears_bd hW h1
  refine C2.of (by decide +kernel) (Nat.le_of_ble_eq_true rfl) ?_
  refine r_aload_n (Y := YX1_reckon) dX1_reckon_0 rfl ?_
  refine r_getR (Y := YX1_reckon) (δz := 1) fl_X1_12 dX1_reckon_1 rfl rfl ?_
  refine r_aload_n (Y := YX1_reckon) dX1_reckon_4 rfl ?_
  refine r_iV1V (Y := YX1_reckon) mv_X1_28 dX1_reckon_5 (c_X3_become k1 hq hR hL (by omega)) (by assumption) (fun σ5 h5 => ?_)
  obtain ⟨b1, b2⟩ := h5
  refine r_iconst (Y := YX1_reckon) dX1_reckon_8 ?_
  refine r_istore_n (Y := YX1_reckon) dX1_reckon_9 ?_
  suffices hloop : ∀ (r j : Nat) (τ : ab_S), j + r = xs.length + 1 → RP τ (c + 1) xs → (∀ k : Int, 0 ≤ k → k < j → τ (c + 4) k = bearsA A k) → (∀ k i : Int, k < c ∨ c + 6 < k → k ≠ a + 6 → τ k i = σ k i) → R2 YX1_reckon 4 τ 10 [some (rf c), some (rf a), some (rf q), some (iv j), none] [] (PV fun σ' => σ' (c + 5) 0 = VV xs (bearsA A) xs.length 0 0 ∧ (∀ (i : Nat) (v : Int), (ords xs (bearsA A) xs.length 0 0)[i]? = some v → σ' (c + 6) i = v) ∧ ∀ k i : Int, k < c ∨ c + 6 < k → k ≠ a + 6 → σ' k i = σ k i) from
    R2.weak (by repeat first | exact trivial | refine And.intro rfl ?_) (hloop (xs.length + 1) 0 σ5 (by omega) b1 (fun k h1 h2 => by omega) (fun k i h1 _ => b2 k i (by omega)))
  intro r
  induction r with
  | zero =>
    intro j τ e1 e2 e3 hF
    have e4 : j = xs.length + 1 := by omega
    subst e4
    have hX : CX τ c xs (bearsA A) := ⟨e2, fun k h1 h2 => e3 k h1 (by omega)⟩
    refine r_iload_n (Y := YX1_reckon) dX1_reckon_10 rfl ?_
    refine r_aload_n (Y := YX1_reckon) dX1_reckon_11 rfl ?_
    refine r_getR (Y := YX1_reckon) (δz := 1) fl_X1_12 dX1_reckon_12 rfl rfl ?_
    refine r_getV (Y := YX1_reckon) (v := (xs.length : Int)) (jz := 2) fl_X1_32 dX1_reckon_15 (e2.1) ?_
    refine r_icmp_gt (Y := YX1_reckon) (tgt := 38) dX1_reckon_18 (by decide) (fun c18 => ?_) (fun c18 => absurd c18 (by omega)) 
    refine r_iconst (Y := YX1_reckon) dX1_reckon_38 ?_
    refine r_aload_n (Y := YX1_reckon) dX1_reckon_39 rfl ?_
    refine r_getR (Y := YX1_reckon) (δz := 1) fl_X1_12 dX1_reckon_40 rfl rfl ?_
    refine r_getV (Y := YX1_reckon) (v := (xs.length : Int)) (jz := 2) fl_X1_32 dX1_reckon_43 (hX.1.1) ?_
    refine r_ishl (Y := YX1_reckon) dX1_reckon_46 ?_
    rw [hpw.1]
    refine r_iconst (Y := YX1_reckon) dX1_reckon_47 ?_
    refine r_isub (Y := YX1_reckon) dX1_reckon_48 ?_
    refine r_istore_n (Y := YX1_reckon) dX1_reckon_49 ?_
    suffices hout : ∀ (m : Nat) (υ : ab_S), m ≤ 2 ^ xs.length → CX υ c xs (bearsA A) → TBL υ c xs (bearsA A) m → (∀ k i : Int, k < c ∨ c + 6 < k → k ≠ a + 6 → υ k i = σ k i) → R2 YX1_reckon 4 υ 50 [some (rf c), some (rf a), some (rf q), some (iv ((m : Int) - 1)), none] [] (PV fun σ' => σ' (c + 5) 0 = VV xs (bearsA A) xs.length 0 0 ∧ (∀ (i : Nat) (v : Int), (ords xs (bearsA A) xs.length 0 0)[i]? = some v → σ' (c + 6) i = v) ∧ ∀ k i : Int, k < c ∨ c + 6 < k → k ≠ a + 6 → σ' k i = σ k i) from
      R2.weak (by repeat first | exact trivial | refine And.intro rfl ?_) (hout (2 ^ xs.length) τ (Nat.le_refl _) hX (fun t k h1 h2 _ _ => by omega) hF)
    intro m
    induction m with
    | zero =>
      intro υ e5 hXu hTu hFu
      refine r_iload_n (Y := YX1_reckon) dX1_reckon_50 rfl ?_
      refine r_if_lt (Y := YX1_reckon) (tgt := 96) dX1_reckon_51 (by decide) (fun c51 => ?_) (fun c51 => absurd c51 (by omega)) 
      refine r_aload_n (Y := YX1_reckon) dX1_reckon_96 rfl ?_
      refine r_iV0V (Y := YX1_reckon) mv_X1_51 dX1_reckon_97 (c_X1_findOrder hc hXu hL hO hBB (fun t k h1 h2 h3 h4 => hTu t k (by omega) h2 h3 h4)) (by assumption) (fun σ97 h97 => ?_)
      obtain ⟨g1, g2⟩ := h97
      refine r_return (Y := YX1_reckon) dX1_reckon_100 ?_
      refine ⟨?_, g1, fun k i h1 h2 => by rw [g2 k i (by omega)]; exact hFu k i h1 h2⟩
      rw [g2 _ _ (by omega)]
      have h9 := hTu 0 0 (by omega) (by omega) (by omega) (by decide)
      rw [show pc6 0 = 0 by decide] at h9
      exact h9
    | succ m ihm =>
      intro υ e5 hXu hTu hFu
      have hpc := qpc_dec xs.length (by omega) m (by omega)
      have hm1 : (((m + 1 : Nat) : Int) - 1) = m := by omega
      rw [hm1]
      refine r_iload_n (Y := YX1_reckon) dX1_reckon_50 rfl ?_
      refine r_if_lt (Y := YX1_reckon) (tgt := 96) dX1_reckon_51 (by decide) (fun c51 => absurd c51 (by omega)) (fun c51 => ?_) 
      refine r_iload_n (Y := YX1_reckon) dX1_reckon_54 rfl ?_
      refine r_iS1I (Y := YX1_reckon) ms_X1_42 dX1_reckon_55 (c_J6_bitCount_0f7a4 _ _ (by omega) (by omega)) (fun σ55 z55 h55 => ?_)
      obtain ⟨rfl, rfl⟩ := h55
      refine r_istore (Y := YX1_reckon) dX1_reckon_58 ?_
      obtain ⟨n0, hn0⟩ : ∃ n0 : Nat, pc6 m = n0 := ⟨(pc6 m).toNat, by omega⟩
      suffices hin : ∀ (w : Nat) (υ : ab_S), w ≤ n0 + 1 → CX υ c xs (bearsA A) → TBL υ c xs (bearsA A) ((m + 1 : Nat) : Int) → (∀ k : Int, (w : Int) ≤ k → k ≤ n0 → υ (c + 5) ((m : Int) * 7 + k) = VV xs (bearsA A) (xs.length - (pc6 m).toNat) m k) → (∀ k i : Int, k < c ∨ c + 6 < k → k ≠ a + 6 → υ k i = σ k i) → R2 YX1_reckon 4 υ 60 [some (rf c), some (rf a), some (rf q), some (iv m), some (iv ((w : Int) - 1))] [] (PV fun σ' => σ' (c + 5) 0 = VV xs (bearsA A) xs.length 0 0 ∧ (∀ (i : Nat) (v : Int), (ords xs (bearsA A) xs.length 0 0)[i]? = some v → σ' (c + 6) i = v) ∧ ∀ k i : Int, k < c ∨ c + 6 < k → k ≠ a + 6 → σ' k i = σ k i) from by
        rw [hn0]
        refine R2.weak (ls' := [some (rf c), some (rf a), some (rf q), some (iv m), some (iv (((n0 + 1 : Nat) : Int) - 1))]) ?_ (hin (n0 + 1) _ (Nat.le_refl _) hXu hTu (fun k h1 h2 => by omega) hFu)
        rw [show (((n0 + 1 : Nat) : Int) - 1) = n0 by omega]
        repeat first | exact trivial | refine And.intro rfl ?_
      intro w
      induction w with
      | zero =>
        intro ω e6 hXw hTw hDw hFw
        refine r_iload (Y := YX1_reckon) dX1_reckon_60 rfl ?_
        refine r_if_lt (Y := YX1_reckon) (tgt := 90) dX1_reckon_62 (by decide) (fun c62 => ?_) (fun c62 => absurd c62 (by omega)) 
        refine r_iinc (Y := YX1_reckon) dX1_reckon_90 rfl ?_
        refine r_goto (Y := YX1_reckon) (tgt := 50) dX1_reckon_93 (by decide) ?_
        refine R2.weak (by repeat first | exact trivial | refine And.intro rfl ?_) (ihm _ (by omega) hXw (fun t k h1 h2 h3 h4 => ?_) hFw)
        by_cases et : t = m
        · subst et; exact hDw k (by omega) (by omega)
        · exact hTw t k (by omega) h2 h3 h4
      | succ w ihw =>
        intro ω e6 hXw hTw hDw hFw
        have hw1 : (((w + 1 : Nat) : Int) - 1) = w := by omega
        rw [hw1]
        have hT9 := TBL.at (σ := ω) (c := c) (t := m) (k := w) (B := bearsA A) hTw hL (by omega) (by omega) (by omega) (by omega)
        have hfb : ∀ t k, 0 ≤ VV xs (bearsA A) (xs.length - (pc6 m).toNat - 1) t k ∧ VV xs (bearsA A) (xs.length - (pc6 m).toNat - 1) t k ≤ 594 := fun t k => by have := VV_bd (B := bearsA A) hO (xs.length - (pc6 m).toNat - 1) t k; omega
        refine r_iload (Y := YX1_reckon) dX1_reckon_60 rfl ?_
        refine r_if_lt (Y := YX1_reckon) (tgt := 90) dX1_reckon_62 (by decide) (fun c62 => absurd c62 (by omega)) (fun c62 => ?_) 
        refine r_aload_n (Y := YX1_reckon) dX1_reckon_65 rfl ?_
        refine r_getR (Y := YX1_reckon) (δz := 5) fl_X1_22 dX1_reckon_66 rfl rfl ?_
        refine r_iload_n (Y := YX1_reckon) dX1_reckon_69 rfl ?_
        refine r_bipush (Y := YX1_reckon) dX1_reckon_70 ?_
        refine r_imul (Y := YX1_reckon) dX1_reckon_72 ?_
        refine r_iload (Y := YX1_reckon) dX1_reckon_73 rfl ?_
        refine r_iadd (Y := YX1_reckon) dX1_reckon_75 ?_
        refine r_aload_n (Y := YX1_reckon) dX1_reckon_76 rfl ?_
        refine r_iload_n (Y := YX1_reckon) dX1_reckon_77 rfl ?_
        refine r_iload (Y := YX1_reckon) dX1_reckon_78 rfl ?_
        refine r_iV2I (Y := YX1_reckon) mv_X1_47 dX1_reckon_80 (c_X1_mostFrom hc hXw hL hO hBB (by omega) (by omega) (by omega) (by omega) hfb hT9) (by assumption) (fun σ80 z80 h80 => ?_)
        obtain ⟨rfl, rfl⟩ := h80
        rw [VV_tab hL (by omega) (by omega)]
        refine r_iastore (Y := YX1_reckon) dX1_reckon_83 ?_
        refine r_iinc (Y := YX1_reckon) dX1_reckon_84 rfl ?_
        refine r_goto (Y := YX1_reckon) (tgt := 60) dX1_reckon_87 (by decide) ?_
        refine R2.weak (by repeat first | exact trivial | refine And.intro rfl ?_) (ihw _ (by omega) (hXw.kept (fun k i _ _ => by (try delta up); (try delta cpy); (try dsimp only); repeat (first | rw [if_pos (by omega)] | rw [if_neg (by omega)]); try (first | rfl | assumption | omega))) (fun t k h1 h2 h3 h4 => ?_) (fun k h1 h2 => ?_) (fun k i h1 h2 => by rw [← hFw k i h1 h2]; exact (by (try delta up); (try delta cpy); (try dsimp only); repeat (first | rw [if_pos (by omega)] | rw [if_neg (by omega)]); try (first | rfl | assumption | omega))))
        · rw [← hTw t k h1 h2 h3 h4]
          have hpt := qpc_dec xs.length (by omega) t.toNat (by omega)
          rw [show ((t.toNat : Nat) : Int) = t by omega] at hpt
          exact (by (try delta up); (try delta cpy); (try dsimp only); repeat (first | rw [if_pos (by omega)] | rw [if_neg (by omega)]); try (first | rfl | assumption | omega))
        · by_cases ek : k = w
          · subst ek; rw [up_same]
          · rw [← hDw k (by omega) h2]; exact (by (try delta up); (try delta cpy); (try dsimp only); repeat (first | rw [if_pos (by omega)] | rw [if_neg (by omega)]); try (first | rfl | assumption | omega))
  | succ r ih =>
    intro j τ e1 e2 e3 hF
    have hAt : RA τ a A := hA.kept (fun k i _ _ h9 => hF k i (by omega) h9)
    refine r_iload_n (Y := YX1_reckon) dX1_reckon_10 rfl ?_
    refine r_aload_n (Y := YX1_reckon) dX1_reckon_11 rfl ?_
    refine r_getR (Y := YX1_reckon) (δz := 1) fl_X1_12 dX1_reckon_12 rfl rfl ?_
    refine r_getV (Y := YX1_reckon) (v := (xs.length : Int)) (jz := 2) fl_X1_32 dX1_reckon_15 (e2.1) ?_
    refine r_icmp_gt (Y := YX1_reckon) (tgt := 38) dX1_reckon_18 (by decide) (fun c18 => absurd c18 (by omega)) (fun c18 => ?_) 
    refine r_aload_n (Y := YX1_reckon) dX1_reckon_21 rfl ?_
    refine r_getR (Y := YX1_reckon) (δz := 4) fl_X1_18 dX1_reckon_22 rfl rfl ?_
    refine r_iload_n (Y := YX1_reckon) dX1_reckon_25 rfl ?_
    refine r_aload_n (Y := YX1_reckon) dX1_reckon_26 rfl ?_
    refine r_iload_n (Y := YX1_reckon) dX1_reckon_27 rfl ?_
    refine r_iV1I (Y := YX1_reckon) mv_X1_36 dX1_reckon_28 (c_X0_bearsLess ha hAt hW (by omega) (by omega)) (by assumption) (fun σ28 z28 h28 => ?_)
    obtain ⟨rfl, g1⟩ := h28
    refine r_iastore (Y := YX1_reckon) dX1_reckon_31 ?_
    refine r_iinc (Y := YX1_reckon) dX1_reckon_32 rfl ?_
    refine r_goto (Y := YX1_reckon) (tgt := 10) dX1_reckon_35 (by decide) ?_
    refine R2.weak (by repeat first | exact trivial | refine And.intro rfl ?_) (ih (j + 1) _ (by omega) (e2.kept (fun k i _ _ => by rw [← g1 k i (by omega)]; exact (by (try delta up); (try delta cpy); (try dsimp only); repeat (first | rw [if_pos (by omega)] | rw [if_neg (by omega)]); try (first | rfl | assumption | omega)))) (fun k h1 h2 => ?_) (fun k i h1 h2 => by rw [← hF k i h1 h2, ← g1 k i h2]; exact (by (try delta up); (try delta cpy); (try dsimp only); repeat (first | rw [if_pos (by omega)] | rw [if_neg (by omega)]); try (first | rfl | assumption | omega))))
    by_cases ek : k = j
    · subst ek; rw [up_same]
    · rw [up_ne (by omega), g1 _ _ (by omega)]; exact e3 k h1 (by omega)
