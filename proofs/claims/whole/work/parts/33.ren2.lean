/-! renewal: hope, and the order of the baskets -/
def OD (σ : ab_S) (g : Int) (od : List Int) : Prop := od.length = 6 ∧ ∀ (i : Nat) (x : Int), od[i]? = some x → σ (g + 127) i = x
theorem tk_bd {A : AB} (h : WA A) : ∀ {od : List Int} {k : Nat}, (∀ m ∈ od, 0 ≤ m ∧ m < 6) → tk A od k ≤ 891 * od.length
  | [], _, _ => by simp [tk]
  | _ :: _, 0, _ => by simp [tk]; omega
  | m :: r, k + 1, ho => by
    have h1 := ho m List.mem_cons_self
    have h2 := h.2.1 m h1.1 h1.2
    have h2b := h.2.2.1 m h1.1 h1.2
    have h3 := tk_bd h (od := r) (k := k) (fun q hq => ho q (List.mem_cons_of_mem _ hq))
    have h4 := tk_bd h (od := r) (k := k + 1) (fun q hq => ho q (List.mem_cons_of_mem _ hq))
    have : aB A m * aS A m ≤ 99 * 9 := Int.mul_le_mul h2b.2 h2.2 h2.1 (by omega)
    unfold tk
    rw [List.length_cons]
    split <;> omega
theorem hopT_bd {A : AB} (h : WA A) {od : List Int} {k : Nat} (ho : ∀ m ∈ od, 0 ≤ m ∧ m < 6) (hl : od.length = 6) : 0 ≤ hopT A od k ∧ hopT A od k ≤ 100000 := by
  have h1 := tk_bd h (k := k) ho
  have h2 := tk_nn h (k := k) ho
  have hx : 0 ≤ aWr A * k := Int.mul_nonneg h.2.2.2.2.1 (by omega)
  have p0 := pow_bd h hx (r := 0) (by omega) (by omega)
  have p1 := pow_bd h hx (r := 1) (by omega) (by omega)
  have p2 := pow_bd h hx (r := 2) (by omega) (by omega)
  have p3 := pow_bd h hx (r := 3) (by omega) (by omega)
  have e : hopT A od k = 0 + powL (aS A) (loseL (aWr A * k) (aR A 0)) + powL (aS A) (loseL (aWr A * k) (aR A 1)) + powL (aS A) (loseL (aWr A * k) (aR A 2)) + powL (aS A) (loseL (aWr A * k) (aR A 3)) + tk A od k := rfl
  omega
set_option maxRecDepth 20000 in
theorem c_X4_isHopeless {σ : ab_S} {g w : Int} {A : AB} (hg : kd_ g 4 9) (hw1 : 0 ≤ w) (hw2 : w < 4) (hA : RA σ (g + 1 + (1 + 23 * w)) A) (hW : WA A) {k : Nat} (hk1 : 1 ≤ k) (hk2 : w + k ≤ 4) (h6 : σ g 6 = w + k) {need : Int} (hn : σ g 7 = need) (hn1 : -2147483648 ≤ need) (hn2 : need ≤ 2147483647) {od : List Int} (hO : OD σ g od) (hP : ∀ m ∈ od, 0 ≤ m ∧ m < 6) : C2 YX4_isHopeless 2 σ [rf g, iv w] (PI fun σ' z => σ' = σ ∧ z = if hopT A od k < need then 1 else 0) := by
  obtain ⟨k1, k2, k3, k4, k5, k6⟩ := kd_renewal hg
  have ka := kd_ahead hg (i := w) (by omega) (by omega)
  obtain ⟨a1, a2, a3, a4, a5, a6⟩ := kd_abbey ka
  have hwr := hW.2.2.2.2
  have hx : 0 ≤ aWr A * k ∧ aWr A * k ≤ 9 * 4 := ⟨Int.mul_nonneg hwr.1 (by omega), Int.mul_le_mul hwr.2 (by omega) (by omega) (by omega)⟩
  have hhb := hopT_bd hW (k := k) hP hO.1
  refine C2.of (by decide +kernel) (Nat.le_of_ble_eq_true rfl) ?_
  refine r_aload_n (Y := YX4_isHopeless) dX4_isHopeless_0 rfl ?_
  refine r_getR (Y := YX4_isHopeless) (δz := 1) fl_X4_11 dX4_isHopeless_1 rfl rfl ?_
  refine r_iload_n (Y := YX4_isHopeless) dX4_isHopeless_4 rfl ?_
  first | refine r_aaload (Y := YX4_isHopeless) (δz := 2) (sz := 4) dX4_isHopeless_5 tg_12 rfl rfl ?_ | refine r_aaload (Y := YX4_isHopeless) (δz := 1) (sz := 30) dX4_isHopeless_5 tg_13 rfl rfl ?_ | refine r_aaload (Y := YX4_isHopeless) (δz := 1) (sz := 23) dX4_isHopeless_5 tg_14 rfl rfl ?_ | refine r_aaload (Y := YX4_isHopeless) (δz := 1) (sz := 1) dX4_isHopeless_5 tg_15 rfl rfl ?_
  refine r_astore_n (Y := YX4_isHopeless) dX4_isHopeless_6 ?_
  refine r_aload_n (Y := YX4_isHopeless) dX4_isHopeless_7 rfl ?_
  refine r_getV (Y := YX4_isHopeless) (v := w + k) (jz := 6) fl_X4_36 dX4_isHopeless_8 (h6) ?_
  refine r_iload_n (Y := YX4_isHopeless) dX4_isHopeless_11 rfl ?_
  refine r_isub (Y := YX4_isHopeless) dX4_isHopeless_12 ?_
  refine r_istore_n (Y := YX4_isHopeless) dX4_isHopeless_13 ?_
  refine r_iconst (Y := YX4_isHopeless) dX4_isHopeless_14 ?_
  refine r_istore (Y := YX4_isHopeless) dX4_isHopeless_15 ?_
  refine r_iconst (Y := YX4_isHopeless) dX4_isHopeless_17 ?_
  refine r_istore (Y := YX4_isHopeless) dX4_isHopeless_18 ?_
  suffices hloop : ∀ (j n : Nat), n + j = 4 → R2 YX4_isHopeless 2 σ 20 [some (rf g), some (iv w), some (rf (g + 1 + (1 + 23 * w))), some (iv k), some (iv (sumN (fun r => powL (aS A) (loseL (aWr A * k) (aR A r))) n)), some (iv n), none] [] (PI fun σ' z => σ' = σ ∧ z = if hopT A od k < need then 1 else 0) from by
    rw [show w + (k : Int) - w = k by omega]
    exact R2.weak (by repeat first | exact trivial | refine And.intro rfl ?_) (hloop 4 0 rfl)
  intro j
  induction j with
  | zero =>
    intro n e1
    have e2 : n = 4 := by omega
    subst e2
    refine r_iload (Y := YX4_isHopeless) dX4_isHopeless_20 rfl ?_
    refine r_iconst (Y := YX4_isHopeless) dX4_isHopeless_22 ?_
    refine r_icmp_ge (Y := YX4_isHopeless) (tgt := 57) dX4_isHopeless_23 (by decide) (fun c23 => ?_) (fun c23 => absurd c23 (by omega)) 
    refine r_iconst (Y := YX4_isHopeless) dX4_isHopeless_57 ?_
    refine r_istore (Y := YX4_isHopeless) dX4_isHopeless_58 ?_
    suffices h2 : ∀ (rest : List Int) (i j : Nat) (p : Int), i ≤ 6 → j ≤ 4 → od.drop i = rest → p + tk A rest j = hopT A od k → R2 YX4_isHopeless 2 σ 60 [some (rf g), some (iv w), some (rf (g + 1 + (1 + 23 * w))), some (iv j), some (iv p), some (iv i), none] [] (PI fun σ' z => σ' = σ ∧ z = if hopT A od k < need then 1 else 0) from
      R2.weak (by repeat first | exact trivial | refine And.intro rfl ?_) (h2 od 0 k _ (by omega) (by omega) rfl rfl)
    intro rest
    induction rest with
    | nil =>
      intro i j p ei ej e3 e4
      have e5 : od.length ≤ i := List.drop_eq_nil_iff.mp e3
      have e6 := hO.1
      have e7 : p = hopT A od k := by rw [← e4]; show p = p + 0; omega
      refine r_iload (Y := YX4_isHopeless) dX4_isHopeless_60 rfl ?_
      refine r_bipush (Y := YX4_isHopeless) dX4_isHopeless_62 ?_
      refine r_icmp_ge (Y := YX4_isHopeless) (tgt := 110) dX4_isHopeless_64 (by decide) (fun c64 => ?_) (fun c64 => absurd c64 (by omega)) 
      refine r_iload (Y := YX4_isHopeless) dX4_isHopeless_110 rfl ?_
      refine r_aload_n (Y := YX4_isHopeless) dX4_isHopeless_112 rfl ?_
      refine r_getV (Y := YX4_isHopeless) (v := need) (jz := 7) fl_X4_40 dX4_isHopeless_113 (hn) ?_
      refine r_icmp_ge (Y := YX4_isHopeless) (tgt := 123) dX4_isHopeless_116 (by decide) (fun c116 => ?_) (fun c116 => ?_) 
      · refine r_iconst (Y := YX4_isHopeless) dX4_isHopeless_123 ?_
        refine r_zreturn (Y := YX4_isHopeless) dX4_isHopeless_124 (by omega) ?_
        exact ⟨rfl, by first | rw [if_pos (by omega)] | rw [if_neg (by omega)]⟩
      · refine r_iconst (Y := YX4_isHopeless) dX4_isHopeless_119 ?_
        refine r_goto (Y := YX4_isHopeless) (tgt := 124) dX4_isHopeless_120 (by decide) ?_
        refine r_zreturn (Y := YX4_isHopeless) dX4_isHopeless_124 (by omega) ?_
        exact ⟨rfl, by first | rw [if_pos (by omega)] | rw [if_neg (by omega)]⟩
    | cons m rest ih =>
      intro i j p ei ej e3 e4
      have e6 := hO.1
      have e5 : i < 6 := by
        apply Decidable.byContradiction
        intro h
        rw [List.drop_eq_nil_of_le (by omega)] at e3
        cases e3
      have e7 : od[i]? = some m := by
        have := congrArg List.head? e3
        rwa [List.head?_drop] at this
      have e8 : od.drop (i + 1) = rest := by
        have := congrArg List.tail e3
        rwa [List.tail_drop] at this
      have hm := hP m (List.mem_of_getElem? e7)
      have hbm := hW.2.2.1 m hm.1 hm.2
      have hpz : j = 0 → p = hopT A od k := fun h => by rw [← e4, h, tk_zero]; omega
      have hps : ∀ q, j = q + 1 → 0 < aB A m → p + aB A m * aS A m + tk A rest q = hopT A od k := fun q h hb => by
        rw [← e4, h]
        show _ = p + if 0 < aB A m then _ else _
        rw [if_pos hb]
        omega
      have hpn : ∀ q, j = q + 1 → ¬ 0 < aB A m → p + tk A rest j = hopT A od k := fun q h hb => by
        rw [← e4, h]
        show _ = p + if 0 < aB A m then _ else _
        rw [if_neg hb]
      refine r_iload (Y := YX4_isHopeless) dX4_isHopeless_60 rfl ?_
      refine r_bipush (Y := YX4_isHopeless) dX4_isHopeless_62 ?_
      refine r_icmp_ge (Y := YX4_isHopeless) (tgt := 110) dX4_isHopeless_64 (by decide) (fun c64 => absurd c64 (by omega)) (fun c64 => ?_) 
      refine r_iload_n (Y := YX4_isHopeless) dX4_isHopeless_67 rfl ?_
      refine r_if_le (Y := YX4_isHopeless) (tgt := 110) dX4_isHopeless_68 (by decide) (fun c68 => ?_) (fun c68 => ?_) 
      · have e9 := hpz (by omega)
        refine r_iload (Y := YX4_isHopeless) dX4_isHopeless_110 rfl ?_
        refine r_aload_n (Y := YX4_isHopeless) dX4_isHopeless_112 rfl ?_
        refine r_getV (Y := YX4_isHopeless) (v := need) (jz := 7) fl_X4_40 dX4_isHopeless_113 (hn) ?_
        refine r_icmp_ge (Y := YX4_isHopeless) (tgt := 123) dX4_isHopeless_116 (by decide) (fun c116 => ?_) (fun c116 => ?_) 
        · refine r_iconst (Y := YX4_isHopeless) dX4_isHopeless_123 ?_
          refine r_zreturn (Y := YX4_isHopeless) dX4_isHopeless_124 (by omega) ?_
          exact ⟨rfl, by first | rw [if_pos (by omega)] | rw [if_neg (by omega)]⟩
        · refine r_iconst (Y := YX4_isHopeless) dX4_isHopeless_119 ?_
          refine r_goto (Y := YX4_isHopeless) (tgt := 124) dX4_isHopeless_120 (by decide) ?_
          refine r_zreturn (Y := YX4_isHopeless) dX4_isHopeless_124 (by omega) ?_
          exact ⟨rfl, by first | rw [if_pos (by omega)] | rw [if_neg (by omega)]⟩
      · refine r_aload_n (Y := YX4_isHopeless) dX4_isHopeless_71 rfl ?_
        refine r_getR (Y := YX4_isHopeless) (δz := 127) fl_X4_26 dX4_isHopeless_72 rfl rfl ?_
        refine r_iload (Y := YX4_isHopeless) dX4_isHopeless_75 rfl ?_
        refine r_iaV (Y := YX4_isHopeless) (v := m) dX4_isHopeless_77 (hO.2 i m e7) ?_
        refine r_istore (Y := YX4_isHopeless) dX4_isHopeless_78 ?_
        refine r_aload_n (Y := YX4_isHopeless) dX4_isHopeless_80 rfl ?_
        refine r_getR (Y := YX4_isHopeless) (δz := 3) fl_X4_79 dX4_isHopeless_81 rfl rfl ?_
        refine r_iload (Y := YX4_isHopeless) dX4_isHopeless_84 rfl ?_
        refine r_iaV (Y := YX4_isHopeless) (v := aB A m) dX4_isHopeless_86 (hA.2.2.1 m hm.1 hm.2) ?_
        refine r_if_le (Y := YX4_isHopeless) (tgt := 104) dX4_isHopeless_87 (by decide) (fun c87 => ?_) (fun c87 => ?_) 
        · refine r_iinc (Y := YX4_isHopeless) dX4_isHopeless_104 rfl ?_
          refine r_goto (Y := YX4_isHopeless) (tgt := 60) dX4_isHopeless_107 (by decide) ?_
          first
            | exact R2.weak (by repeat first | exact trivial | refine And.intro rfl ?_) (ih (i + 1) j p (by omega) ej e8 (hpn (j - 1) (by omega) (by omega)))
            | (rw [show (j : Int) + -1 = ((j - 1 : Nat) : Int) by omega]
               exact R2.weak (by repeat first | exact trivial | refine And.intro rfl ?_) (ih (i + 1) (j - 1) _ (by omega) (by omega) e8 (hps (j - 1) (by omega) (by omega))))
        · refine r_iload (Y := YX4_isHopeless) dX4_isHopeless_90 rfl ?_
          refine r_aload_n (Y := YX4_isHopeless) dX4_isHopeless_92 rfl ?_
          refine r_iload (Y := YX4_isHopeless) dX4_isHopeless_93 rfl ?_
          refine r_iV1I (Y := YX4_isHopeless) mv_X4_57 dX4_isHopeless_95 (c_X0_powerInBasket ka hA hW hm.1 hm.2) (by assumption) (fun σ95 z95 h95 => ?_)
          obtain ⟨rfl, rfl⟩ := h95
          refine r_iadd (Y := YX4_isHopeless) dX4_isHopeless_98 ?_
          refine r_istore (Y := YX4_isHopeless) dX4_isHopeless_99 ?_
          refine r_iinc (Y := YX4_isHopeless) dX4_isHopeless_101 rfl ?_
          refine r_iinc (Y := YX4_isHopeless) dX4_isHopeless_104 rfl ?_
          refine r_goto (Y := YX4_isHopeless) (tgt := 60) dX4_isHopeless_107 (by decide) ?_
          first
            | exact R2.weak (by repeat first | exact trivial | refine And.intro rfl ?_) (ih (i + 1) j p (by omega) ej e8 (hpn (j - 1) (by omega) (by omega)))
            | (rw [show (j : Int) + -1 = ((j - 1 : Nat) : Int) by omega]
               exact R2.weak (by repeat first | exact trivial | refine And.intro rfl ?_) (ih (i + 1) (j - 1) _ (by omega) (by omega) e8 (hps (j - 1) (by omega) (by omega))))
  | succ j ih =>
    intro n e1
    have kr := kd_ropes ka (i := n) (by omega) (by omega)
    have hWn := hW.2.2.2.1 n (by omega) (by omega)
    have hpw : powL (σ (g + 1 + (1 + 23 * w) + 2)) (loseL (aWr A * k) (aR A n)) = powL (aS A) (loseL (aWr A * k) (aR A n)) := powL_congr hA.2.1 (hWn.lose hx.1).2
    refine r_iload (Y := YX4_isHopeless) dX4_isHopeless_20 rfl ?_
    refine r_iconst (Y := YX4_isHopeless) dX4_isHopeless_22 ?_
    refine r_icmp_ge (Y := YX4_isHopeless) (tgt := 57) dX4_isHopeless_23 (by decide) (fun c23 => absurd c23 (by omega)) (fun c23 => ?_) 
    refine r_iload (Y := YX4_isHopeless) dX4_isHopeless_26 rfl ?_
    refine r_aload_n (Y := YX4_isHopeless) dX4_isHopeless_28 rfl ?_
    refine r_getR (Y := YX4_isHopeless) (δz := 5) fl_X4_105 dX4_isHopeless_29 rfl rfl ?_
    refine r_iload (Y := YX4_isHopeless) dX4_isHopeless_32 rfl ?_
    first | refine r_aaload (Y := YX4_isHopeless) (δz := 2) (sz := 4) dX4_isHopeless_34 tg_12 rfl rfl ?_ | refine r_aaload (Y := YX4_isHopeless) (δz := 1) (sz := 30) dX4_isHopeless_34 tg_13 rfl rfl ?_ | refine r_aaload (Y := YX4_isHopeless) (δz := 1) (sz := 23) dX4_isHopeless_34 tg_14 rfl rfl ?_ | refine r_aaload (Y := YX4_isHopeless) (δz := 1) (sz := 1) dX4_isHopeless_34 tg_15 rfl rfl ?_
    refine r_aload_n (Y := YX4_isHopeless) dX4_isHopeless_35 rfl ?_
    refine r_getV (Y := YX4_isHopeless) (v := aWr A) (jz := 6) fl_X4_115 dX4_isHopeless_36 (hA.2.2.2.2.2.1) ?_
    refine r_iload_n (Y := YX4_isHopeless) dX4_isHopeless_39 rfl ?_
    refine r_imul (Y := YX4_isHopeless) dX4_isHopeless_40 ?_
    refine r_aload_n (Y := YX4_isHopeless) dX4_isHopeless_41 rfl ?_
    refine r_getR (Y := YX4_isHopeless) (δz := 2) fl_X4_102 dX4_isHopeless_42 rfl rfl ?_
    refine r_iV2I (Y := YX4_isHopeless) mv_X4_118 dX4_isHopeless_45 (c_X5_powerLess kr (hA.2.2.2.2.1 n (by omega) (by omega)) a2 hWn hx.1 (by omega)) (by assumption) (fun σ45 z45 h45 => ?_)
    obtain ⟨rfl, rfl⟩ := h45
    rw [hpw]
    refine r_iadd (Y := YX4_isHopeless) dX4_isHopeless_48 ?_
    refine r_istore (Y := YX4_isHopeless) dX4_isHopeless_49 ?_
    refine r_iinc (Y := YX4_isHopeless) dX4_isHopeless_51 rfl ?_
    refine r_goto (Y := YX4_isHopeless) (tgt := 20) dX4_isHopeless_54 (by decide) ?_
    exact R2.weak (by repeat first | exact trivial | refine And.intro rfl ?_) (ih (n + 1) (by omega))
set_option maxRecDepth 20000 in
theorem c_X4_wovenAhead {σ : ab_S} {g w : Int} (hg : kd_ g 4 9) (hw1 : 0 ≤ w) (hw2 : w < 4) : C2 YX4_wovenAhead 0 σ [rf g, iv w] (PI fun σ' z => σ' = σ ∧ z = σ (g + 129) w) := by
  obtain ⟨k1, k2, k3, k4, k5, k6⟩ := kd_renewal hg
  refine C2.of (by decide +kernel) (Nat.le_of_ble_eq_true rfl) ?_
  refine r_aload_n (Y := YX4_wovenAhead) dX4_wovenAhead_0 rfl ?_
  refine r_getR (Y := YX4_wovenAhead) (δz := 129) fl_X4_33 dX4_wovenAhead_1 rfl rfl ?_
  refine r_iload_n (Y := YX4_wovenAhead) dX4_wovenAhead_4 rfl ?_
  refine r_iaload (Y := YX4_wovenAhead) dX4_wovenAhead_5 ?_
  refine r_ireturn (Y := YX4_wovenAhead) dX4_wovenAhead_6 ?_
  exact ⟨rfl, rfl⟩
/-- how the monks stand while they are sorted -/
def vB (A : AB) (m : Int) : Int := aB A m * aS A m
def SO (A : AB) (n : Nat) (os : List Int) : Prop := os.length = n ∧ os.Nodup ∧ (∀ m ∈ os, 0 ≤ m ∧ m < n) ∧ (∀ m : Int, 0 ≤ m → m < n → m ∈ os) ∧ List.Pairwise (fun x y => vB A y ≤ vB A x) os
theorem SO.put {A : AB} {n : Nat} {pre suf : List Int} (h : SO A n (pre ++ suf)) (h1 : ∀ x ∈ pre, vB A n ≤ vB A x) (h2 : ∀ x ∈ suf, vB A x < vB A n) : SO A (n + 1) (pre ++ (n : Int) :: suf) := by
  obtain ⟨a1, a2, a3, a4, a5⟩ := h
  rw [List.nodup_append] at a2
  rw [List.pairwise_append] at a5
  refine ⟨?_, ?_, ?_, ?_, ?_⟩
  · rw [List.length_append] at a1
    rw [List.length_append, List.length_cons]
    omega
  · rw [List.nodup_append, List.nodup_cons]
    refine ⟨a2.1, ⟨fun hm => ?_, a2.2.1⟩, fun x hx y hy => ?_⟩
    · have := a3 n (List.mem_append_right _ hm)
      omega
    · rcases List.mem_cons.mp hy with hy | hy
      · subst hy
        intro e
        subst e
        have := a3 n (List.mem_append_left _ hx)
        omega
      · exact a2.2.2 x hx y hy
  · intro m hm
    rcases List.mem_append.mp hm with hm | hm
    · have := a3 m (List.mem_append_left _ hm)
      omega
    · rcases List.mem_cons.mp hm with hm | hm
      · subst hm; omega
      · have := a3 m (List.mem_append_right _ hm)
        omega
  · intro m h3 h4
    by_cases e : m = n
    · subst e
      exact List.mem_append_right _ List.mem_cons_self
    · rcases List.mem_append.mp (a4 m h3 (by omega)) with h | h
      · exact List.mem_append_left _ h
      · exact List.mem_append_right _ (List.mem_cons_of_mem _ h)
  · rw [List.pairwise_append, List.pairwise_cons]
    refine ⟨a5.1, ⟨fun y hy => ?_, a5.2.1⟩, fun x hx y hy => ?_⟩
    · have := h2 y hy; omega
    · rcases List.mem_cons.mp hy with hy | hy
      · subst hy; exact h1 x hx
      · exact a5.2.2 x hx y hy
theorem SO.po {A : AB} {os : List Int} (h : SO A 6 os) : PO A os := ⟨h.2.1, fun m hm => h.2.2.1 m hm, fun m h1 h2 => h.2.2.2.1 m h1 h2, h.2.2.2.2.imp (fun {x y} hxy _ _ => hxy)⟩
def AR (σ : ab_S) (k : Int) (s : Nat) (os : List Int) : Prop := ∀ (i : Nat) (x : Int), os[i]? = some x → σ k ((s + i : Nat) : Int) = x
set_option maxRecDepth 20000 in
theorem c_X4_sortByBasket {σ : ab_S} {g b : Int} {A : AB} (hg : kd_ g 4 9) (hb : kd_ b 0 8) (hA : RA σ b A) (hW : WA A) (hap : b + 22 < g + 127 ∨ g + 127 < b) : C2 YX4_sortByBasket 1 σ [rf g, rf b] (PV fun σ' => ∃ od, OD σ' g od ∧ PO A od ∧ ∀ k i : Int, k ≠ g + 127 → σ' k i = σ k i) := by
  obtain ⟨k1, k2, k3, k4, k5, k6⟩ := kd_renewal hg
  have hv : ∀ m : Int, 0 ≤ m → m < 6 → 0 ≤ vB A m ∧ vB A m ≤ 891 := fun m h1 h2 => by
    have q1 := hW.2.1 m h1 h2
    have q2 := hW.2.2.1 m h1 h2
    exact ⟨Int.mul_nonneg q2.1 q1.1, Int.mul_le_mul q2.2 q1.2 q1.1 (by omega)⟩
  refine C2.of (by decide +kernel) (Nat.le_of_ble_eq_true rfl) ?_
  refine r_iconst (Y := YX4_sortByBasket) dX4_sortByBasket_0 ?_
  refine r_istore_n (Y := YX4_sortByBasket) dX4_sortByBasket_1 ?_
  suffices hloop : ∀ (j n : Nat) (os : List Int) (τ : ab_S), n + j = 6 → SO A n os → AR τ (g + 127) 0 os → (∀ k i : Int, k ≠ g + 127 → τ k i = σ k i) → R2 YX4_sortByBasket 1 τ 2 [some (rf g), some (rf b), some (iv n), none, none] [] (PV fun σ' => ∃ od, OD σ' g od ∧ PO A od ∧ ∀ k i : Int, k ≠ g + 127 → σ' k i = σ k i) from
    R2.weak (by repeat first | exact trivial | refine And.intro rfl ?_) (hloop 6 0 [] σ rfl ⟨rfl, List.nodup_nil, (fun m hm => by cases hm), (fun m h1 h2 => by omega), List.Pairwise.nil⟩ (fun i x h => by cases h) (fun _ _ _ => rfl))
  intro j
  induction j with
  | zero =>
    intro n os τ e1 e2 e3 hF
    have e4 : n = 6 := by omega
    subst e4
    refine r_iload_n (Y := YX4_sortByBasket) dX4_sortByBasket_2 rfl ?_
    refine r_bipush (Y := YX4_sortByBasket) dX4_sortByBasket_3 ?_
    refine r_icmp_ge (Y := YX4_sortByBasket) (tgt := 75) dX4_sortByBasket_5 (by decide) (fun c5 => ?_) (fun c5 => absurd c5 (by omega)) 
    refine r_return (Y := YX4_sortByBasket) dX4_sortByBasket_75 ?_
    exact ⟨os, ⟨e2.1, fun i x h => by rw [← e3 i x h, Nat.zero_add]⟩, e2.po, hF⟩
  | succ j ih =>
    intro n os τ e1 e2 e3 hF
    have hAt : RA τ b A := hA.kept (fun q i b1 b2 _ => hF q i (by omega))
    have hvn := hv n (by omega) (by omega)
    refine r_iload_n (Y := YX4_sortByBasket) dX4_sortByBasket_2 rfl ?_
    refine r_bipush (Y := YX4_sortByBasket) dX4_sortByBasket_3 ?_
    refine r_icmp_ge (Y := YX4_sortByBasket) (tgt := 75) dX4_sortByBasket_5 (by decide) (fun c5 => absurd c5 (by omega)) (fun c5 => ?_) 
    refine r_aload_n (Y := YX4_sortByBasket) dX4_sortByBasket_8 rfl ?_
    refine r_iload_n (Y := YX4_sortByBasket) dX4_sortByBasket_9 rfl ?_
    refine r_iV1I (Y := YX4_sortByBasket) mv_X4_57 dX4_sortByBasket_10 (c_X0_powerInBasket hb hAt hW (m := n) (by omega) (by omega)) (by assumption) (fun σ10 z10 h10 => ?_)
    obtain ⟨rfl, rfl⟩ := h10
    refine r_istore_n (Y := YX4_sortByBasket) dX4_sortByBasket_13 ?_
    refine r_iload_n (Y := YX4_sortByBasket) dX4_sortByBasket_14 rfl ?_
    refine r_istore (Y := YX4_sortByBasket) dX4_sortByBasket_15 ?_
    change R2 _ _ _ _ (some (rf g) :: some (rf b) :: some (iv n) :: some (iv (vB A n)) :: _) _ _
    suffices hin : ∀ (p : Nat) (pre suf : List Int) (υ : ab_S), pre.length = p → SO A n (pre ++ suf) → AR υ (g + 127) 0 pre → AR υ (g + 127) (p + 1) suf → (∀ x ∈ suf, vB A x < vB A n) → (∀ k i : Int, k ≠ g + 127 → υ k i = σ k i) → R2 YX4_sortByBasket 1 υ 17 [some (rf g), some (rf b), some (iv n), some (iv (vB A n)), some (iv p)] [] (PV fun σ' => ∃ od, OD σ' g od ∧ PO A od ∧ ∀ k i : Int, k ≠ g + 127 → σ' k i = σ k i) from
      R2.weak (by repeat first | exact trivial | refine And.intro rfl ?_) (hin n os [] σ10 e2.1 (by rw [List.append_nil]; exact e2) e3 (fun i x h => by cases h) (fun x h => by cases h) hF)
    intro p
    induction p with
    | zero =>
      intro pre suf υ f1 f2 f3 f4 f5 hG
      have f6 : pre = [] := List.eq_nil_of_length_eq_zero f1
      subst f6
      refine r_iload (Y := YX4_sortByBasket) dX4_sortByBasket_17 rfl ?_
      refine r_if_le (Y := YX4_sortByBasket) (tgt := 61) dX4_sortByBasket_19 (by decide) (fun c19 => ?_) (fun c19 => absurd c19 (by omega)) 
      refine r_aload_n (Y := YX4_sortByBasket) dX4_sortByBasket_61 rfl ?_
      refine r_getR (Y := YX4_sortByBasket) (δz := 127) fl_X4_26 dX4_sortByBasket_62 rfl rfl ?_
      refine r_iload (Y := YX4_sortByBasket) dX4_sortByBasket_65 rfl ?_
      refine r_iload_n (Y := YX4_sortByBasket) dX4_sortByBasket_67 rfl ?_
      refine r_iastore (Y := YX4_sortByBasket) dX4_sortByBasket_68 ?_
      refine r_iinc (Y := YX4_sortByBasket) dX4_sortByBasket_69 rfl ?_
      refine r_goto (Y := YX4_sortByBasket) (tgt := 2) dX4_sortByBasket_72 (by decide) ?_
      refine R2.weak (by repeat first | exact trivial | refine And.intro rfl ?_) (ih (n + 1) ([] ++ (n : Int) :: suf) _ (by omega) (f2.put (fun x h => by cases h) f5) (fun i x h => ?_) (fun q i h9 => by rw [← hG q i h9]; exact (by (try delta up); (try delta cpy); (try dsimp only); repeat (first | rw [if_pos (by omega)] | rw [if_neg (by omega)]); try (first | rfl | assumption | omega))))
      cases i with
      | zero =>
        have e : (n : Int) = x := Option.some.inj h
        rw [← e]
        exact (by (try delta up); (try delta cpy); (try dsimp only); repeat (first | rw [if_pos (by omega)] | rw [if_neg (by omega)]); try (first | rfl | assumption | omega))
      | succ i =>
        have e := f4 i x h
        rw [← e]
        rw [show 0 + (i + 1) = 0 + 1 + i by omega]
        exact (by (try delta up); (try delta cpy); (try dsimp only); repeat (first | rw [if_pos (by omega)] | rw [if_neg (by omega)]); try (first | rfl | assumption | omega))
    | succ p ih2 =>
      intro pre suf υ f1 f2 f3 f4 f5 hG
      obtain ⟨pre2, y, f6⟩ : ∃ l x, pre = l ++ [x] := by
        rcases List.eq_nil_or_concat pre with h | ⟨l, x, h⟩
        · subst h; cases f1
        · exact ⟨l, x, by rw [h, List.concat_eq_append]⟩
      subst f6
      have f7 : pre2.length = p := by rw [List.length_append, List.length_singleton] at f1; omega
      have f8 : υ (g + 127) p = y := by
        have := f3 p y (by rw [List.getElem?_append_right (by omega), f7, Nat.sub_self]; rfl)
        rwa [Nat.zero_add] at this
      have hy := f2.2.2.1 y (by rw [List.append_assoc]; exact List.mem_append_right _ (List.mem_append_left _ (List.mem_singleton.mpr rfl)))
      have hvy := hv y (by omega) (by omega)
      have hnl := f2.1
      have hAu : RA υ b A := hA.kept (fun q i b1 b2 _ => hG q i (by omega))
      rw [List.length_append, f1] at hnl
      refine r_iload (Y := YX4_sortByBasket) dX4_sortByBasket_17 rfl ?_
      refine r_if_le (Y := YX4_sortByBasket) (tgt := 61) dX4_sortByBasket_19 (by decide) (fun c19 => absurd c19 (by omega)) (fun c19 => ?_) 
      refine r_aload_n (Y := YX4_sortByBasket) dX4_sortByBasket_22 rfl ?_
      refine r_aload_n (Y := YX4_sortByBasket) dX4_sortByBasket_23 rfl ?_
      refine r_getR (Y := YX4_sortByBasket) (δz := 127) fl_X4_26 dX4_sortByBasket_24 rfl rfl ?_
      refine r_iload (Y := YX4_sortByBasket) dX4_sortByBasket_27 rfl ?_
      refine r_iconst (Y := YX4_sortByBasket) dX4_sortByBasket_29 ?_
      refine r_isub (Y := YX4_sortByBasket) dX4_sortByBasket_30 ?_
      refine r_iaV (Y := YX4_sortByBasket) (v := y) dX4_sortByBasket_31 ((by rw [← f8]; congr 1; omega)) ?_
      refine r_iV1I (Y := YX4_sortByBasket) mv_X4_57 dX4_sortByBasket_32 (c_X0_powerInBasket hb hAu hW (m := y) (by omega) (by omega)) (by assumption) (fun σ32 z32 h32 => ?_)
      obtain ⟨rfl, h32⟩ := h32
      change _ = vB A y at h32
      subst h32
      refine r_iload_n (Y := YX4_sortByBasket) dX4_sortByBasket_35 rfl ?_
      refine r_icmp_ge (Y := YX4_sortByBasket) (tgt := 61) dX4_sortByBasket_36 (by decide) (fun c36 => ?_) (fun c36 => ?_) 
      · refine r_aload_n (Y := YX4_sortByBasket) dX4_sortByBasket_61 rfl ?_
        refine r_getR (Y := YX4_sortByBasket) (δz := 127) fl_X4_26 dX4_sortByBasket_62 rfl rfl ?_
        refine r_iload (Y := YX4_sortByBasket) dX4_sortByBasket_65 rfl ?_
        refine r_iload_n (Y := YX4_sortByBasket) dX4_sortByBasket_67 rfl ?_
        refine r_iastore (Y := YX4_sortByBasket) dX4_sortByBasket_68 ?_
        refine r_iinc (Y := YX4_sortByBasket) dX4_sortByBasket_69 rfl ?_
        refine r_goto (Y := YX4_sortByBasket) (tgt := 2) dX4_sortByBasket_72 (by decide) ?_
        have hall : ∀ x ∈ pre2 ++ [y], vB A n ≤ vB A x := by
          intro x hx
          have h5 := f2.2.2.2.2
          rw [List.append_assoc, List.pairwise_append] at h5
          rcases List.mem_append.mp hx with hx | hx
          · have := h5.2.2 x hx y (List.mem_append_left _ (List.mem_singleton.mpr rfl)); omega
          · rw [List.mem_singleton.mp hx]; omega
        refine R2.weak (by repeat first | exact trivial | refine And.intro rfl ?_) (ih (n + 1) ((pre2 ++ [y]) ++ (n : Int) :: suf) _ (by omega) (f2.put hall f5) (fun i x h => ?_) (fun q i h9 => by rw [← hG q i h9]; exact (by (try delta up); (try delta cpy); (try dsimp only); repeat (first | rw [if_pos (by omega)] | rw [if_neg (by omega)]); try (first | rfl | assumption | omega))))
        by_cases hi : i < p + 1
        · rw [List.getElem?_append_left (by omega)] at h
          have e := f3 i x h
          rw [← e]
          exact (by (try delta up); (try delta cpy); (try dsimp only); repeat (first | rw [if_pos (by omega)] | rw [if_neg (by omega)]); try (first | rfl | assumption | omega))
        · rw [List.getElem?_append_right (by omega), f1] at h
          cases hj : i - (p + 1) with
          | zero =>
            rw [hj] at h
            have e : (n : Int) = x := Option.some.inj h
            rw [← e]
            exact (by (try delta up); (try delta cpy); (try dsimp only); repeat (first | rw [if_pos (by omega)] | rw [if_neg (by omega)]); try (first | rfl | assumption | omega))
          | succ i2 =>
            rw [hj] at h
            have e := f4 i2 x h
            rw [← e]
            rw [show 0 + i = p + 1 + 1 + i2 by omega]
            exact (by (try delta up); (try delta cpy); (try dsimp only); repeat (first | rw [if_pos (by omega)] | rw [if_neg (by omega)]); try (first | rfl | assumption | omega))
      · refine r_aload_n (Y := YX4_sortByBasket) dX4_sortByBasket_39 rfl ?_
        refine r_getR (Y := YX4_sortByBasket) (δz := 127) fl_X4_26 dX4_sortByBasket_40 rfl rfl ?_
        refine r_iload (Y := YX4_sortByBasket) dX4_sortByBasket_43 rfl ?_
        refine r_aload_n (Y := YX4_sortByBasket) dX4_sortByBasket_45 rfl ?_
        refine r_getR (Y := YX4_sortByBasket) (δz := 127) fl_X4_26 dX4_sortByBasket_46 rfl rfl ?_
        refine r_iload (Y := YX4_sortByBasket) dX4_sortByBasket_49 rfl ?_
        refine r_iconst (Y := YX4_sortByBasket) dX4_sortByBasket_51 ?_
        refine r_isub (Y := YX4_sortByBasket) dX4_sortByBasket_52 ?_
        refine r_iaV (Y := YX4_sortByBasket) (v := y) dX4_sortByBasket_53 ((by rw [← f8]; congr 1; omega)) ?_
        refine r_iastore (Y := YX4_sortByBasket) dX4_sortByBasket_54 ?_
        refine r_iinc (Y := YX4_sortByBasket) dX4_sortByBasket_55 rfl ?_
        refine r_goto (Y := YX4_sortByBasket) (tgt := 17) dX4_sortByBasket_58 (by decide) ?_
        rw [show ((p + 1 : Nat) : Int) + -1 = (p : Int) by omega]
        refine R2.weak (by repeat first | exact trivial | refine And.intro rfl ?_) (ih2 pre2 (y :: suf) _ f7 (by rw [List.append_assoc] at f2; exact f2) (fun i x h => ?_) (fun i x h => ?_) (fun x h => ?_) (fun q i h9 => by rw [← hG q i h9]; exact (by (try delta up); (try delta cpy); (try dsimp only); repeat (first | rw [if_pos (by omega)] | rw [if_neg (by omega)]); try (first | rfl | assumption | omega))))
        · have hi := (List.getElem?_eq_some_iff.mp h).1
          have e := f3 i x (by rw [List.getElem?_append_left (by omega)]; exact h)
          rw [← e]
          exact (by (try delta up); (try delta cpy); (try dsimp only); repeat (first | rw [if_pos (by omega)] | rw [if_neg (by omega)]); try (first | rfl | assumption | omega))
        · cases i with
          | zero =>
            have e : y = x := Option.some.inj h
            rw [← e]
            exact (by (try delta up); (try delta cpy); (try dsimp only); repeat (first | rw [if_pos (by omega)] | rw [if_neg (by omega)]); try (first | rfl | assumption | omega))
          | succ i =>
            have e := f4 i x h
            rw [← e]
            rw [show p + 1 + (i + 1) = p + 1 + 1 + i by omega]
            exact (by (try delta up); (try delta cpy); (try dsimp only); repeat (first | rw [if_pos (by omega)] | rw [if_neg (by omega)]); try (first | rfl | assumption | omega))
        · rcases List.mem_cons.mp h with h | h
          · subst h; omega
          · exact f5 x h
