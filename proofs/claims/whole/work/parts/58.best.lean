/-! the model whole: the best order -/
def crN (A : AB) : Nat → AB
  | 0 => A
  | c + 1 => lsA 1 (crN A c)
theorem WA_crN {A : AB} (h : WA A) : ∀ c : Nat, WA (crN A c)
  | 0 => h
  | c + 1 => WA_lsA (WA_crN h c) (by omega)
theorem crN_S {A : AB} : ∀ c : Nat, aS (crN A c) = aS A
  | 0 => rfl
  | c + 1 => by
    have h1 : aS (lsA 1 (crN A c)) = aS (crN A c) := lsN_S 4
    exact h1.trans (crN_S c)
theorem crN_R {A : AB} (h : WA A) {r : Int} (h1 : 0 ≤ r) (h2 : r < 4) : ∀ c : Nat, aR (crN A c) r = loseL c (aR A r)
  | 0 => (loseL_zero (h.2.2.2.1 r h1 h2).2).symm
  | c + 1 => by
    have h3 : aR (lsA 1 (crN A c)) r = loseL 1 (aR (crN A c) r) := by
      have h4 := lsN_R (x := 1) (A := crN A c) 4 r
      rw [if_pos ⟨h1, h2⟩] at h4
      exact h4
    show aR (lsA 1 (crN A c)) r = _
    rw [h3, crN_R h h1 h2 c, loseL_comp (by omega) (by omega) (h.2.2.2.1 r h1 h2).2]
    rfl
theorem bears_cr {A : AB} (h : WA A) (c : Nat) : bearsA (crN A c) 0 = bearsA A c := by
  refine gl_congr (fun r h1 h2 => ?_)
  have h3 := (h.2.2.2.1 r h1 h2).2
  rw [crN_S, crN_R h h1 h2 c, loseL_zero (loseL_ok (by omega) h3)]
theorem sim_bd {xs : List (Int × Int)} {B : Int → Int} (hO : OKL xs) : ∀ (L : List Int) (q : Int × Int), (∀ l ∈ L, 0 ≤ l ∧ l < xs.length) → q.1 ≤ (sim xs B L q).1 ∧ (sim xs B L q).1 ≤ q.1 + 99 * L.length
  | [], q, _ => by show q.1 ≤ q.1 ∧ q.1 ≤ q.1 + 99 * 0; omega
  | l :: r, q, h => by
    have hl := h l List.mem_cons_self
    have h1 := lw_bd hO (show l.toNat < xs.length by omega)
    have ih := sim_bd (B := B) hO r (simS xs B q l) (fun p hp => h p (List.mem_cons_of_mem _ hp))
    have e : ((l :: r).length : Int) = r.length + 1 := rfl
    have h2 : q.1 ≤ (simS xs B q l).1 ∧ (simS xs B q l).1 ≤ q.1 + 99 := by
      unfold simS
      split
      · dsimp only; omega
      · omega
    show q.1 ≤ (sim xs B r (simS xs B q l)).1 ∧ (sim xs B r (simS xs B q l)).1 ≤ _
    omega
theorem pow_nn : ∀ n : Nat, n < 7 → n ^ n ≤ 46656 := by decide +kernel
set_option maxRecDepth 20000 in
theorem c_X9_layOrder {σ : ab_S} {m : Int} (hm : kd_ m 9 37) {xs : List (Int × Int)} (hE : RLq σ m 9 10 12 xs) (hL : xs.length ≤ 6) {num : Nat} (hnum : num ≤ 100000) : C2 YX9_layOrder 0 σ [rf m, iv num] (PI fun σ' z => ((z = 1 ∧ setL (dl xs.length xs.length num) 0 = ((2 ^ xs.length : Nat) : Int) - 1) ∨ (z = 0 ∧ ¬ setL (dl xs.length xs.length num) 0 = ((2 ^ xs.length : Nat) : Int) - 1)) ∧ (∀ (i : Nat) (v : Int), (dl xs.length xs.length num)[i]? = some v → σ' (m + 21) i = v) ∧ ∀ k i : Int, k ≠ m + 21 → σ' k i = σ k i) := by
  obtain ⟨k1, k2, k3, k4, k5, k6, k7, k8, k9, k10, k11, k12, k13, k14, k15, k16, k17, k18, k19, k20, k21, k22, k23, k24, k25, k26⟩ := kd_model hm
  have hq2 := qp2_dec xs.length (by omega)
  have hq3 := hq2.1
  refine C2.of (by decide +kernel) (Nat.le_of_ble_eq_true rfl) ?_
  refine r_iload_n (Y := YX9_layOrder) dX9_layOrder_0 rfl ?_
  refine r_istore_n (Y := YX9_layOrder) dX9_layOrder_1 ?_
  refine r_iconst (Y := YX9_layOrder) dX9_layOrder_2 ?_
  refine r_istore_n (Y := YX9_layOrder) dX9_layOrder_3 ?_
  refine r_aload_n (Y := YX9_layOrder) dX9_layOrder_4 rfl ?_
  refine r_getV (Y := YX9_layOrder) (v := ((xs.length : Nat) : Int)) (jz := 12) fl_X9_206 dX9_layOrder_5 (hE.1) ?_
  refine r_iconst (Y := YX9_layOrder) dX9_layOrder_8 ?_
  refine r_isub (Y := YX9_layOrder) dX9_layOrder_9 ?_
  refine r_istore (Y := YX9_layOrder) dX9_layOrder_10 ?_
  suffices hloop : ∀ (r left : Nat) (had kk : Int) (tl : List Int) (τ : ab_S), dl xs.length xs.length num = dl xs.length r left ++ tl → r ≤ xs.length → left ≤ 100000 → 0 ≤ had → had < ((2 ^ xs.length : Nat) : Int) → setL (dl xs.length r left) had = setL (dl xs.length xs.length num) 0 → kk = (r : Int) - 1 → (∀ (i : Nat) (v : Int), tl[i]? = some v → τ (m + 21) ((r + i : Nat) : Int) = v) → (∀ k i : Int, k ≠ m + 21 → τ k i = σ k i) → R2 YX9_layOrder 0 τ 12 [some (rf m), some (iv num), some (iv left), some (iv had), some (iv kk)] [] (PI fun σ' z => ((z = 1 ∧ setL (dl xs.length xs.length num) 0 = ((2 ^ xs.length : Nat) : Int) - 1) ∨ (z = 0 ∧ ¬ setL (dl xs.length xs.length num) 0 = ((2 ^ xs.length : Nat) : Int) - 1)) ∧ (∀ (i : Nat) (v : Int), (dl xs.length xs.length num)[i]? = some v → σ' (m + 21) i = v) ∧ ∀ k i : Int, k ≠ m + 21 → σ' k i = σ k i) from
    R2.weak (by repeat first | exact trivial | refine And.intro rfl ?_) (hloop xs.length num 0 _ [] σ (by rw [List.append_nil]) (Nat.le_refl _) hnum (by omega) (by omega) rfl rfl (fun i v hv => by cases hv) (fun _ _ _ => rfl))
  intro r
  induction r with
  | zero =>
    intro left had kk tl τ e1 e2 e3 e4 e5 e6 e7 e8 hF
    have e1 : dl xs.length xs.length num = tl := e1
    have e6 : had = setL (dl xs.length xs.length num) 0 := e6
    have hmem : ∀ (i : Nat) (v : Int), (dl xs.length xs.length num)[i]? = some v → τ (m + 21) i = v := fun i v hv => by
      have := e8 i v (by rw [← e1]; exact hv)
      rwa [Nat.zero_add] at this
    rw [← e6]
    have hcn : τ m 12 = ((xs.length : Nat) : Int) := by rw [hF _ _ (by omega)]; exact hE.1
    refine r_iload (Y := YX9_layOrder) dX9_layOrder_12 rfl ?_
    refine r_if_lt (Y := YX9_layOrder) (tgt := 55) dX9_layOrder_14 (by decide) (fun c14 => ?_) (fun c14 => absurd c14 (by omega)) 
    refine r_iload_n (Y := YX9_layOrder) dX9_layOrder_55 rfl ?_
    refine r_iconst (Y := YX9_layOrder) dX9_layOrder_56 ?_
    refine r_aload_n (Y := YX9_layOrder) dX9_layOrder_57 rfl ?_
    refine r_getV (Y := YX9_layOrder) (v := ((xs.length : Nat) : Int)) (jz := 12) fl_X9_206 dX9_layOrder_58 (hcn) ?_
    refine r_ishl (Y := YX9_layOrder) dX9_layOrder_61 ?_
    refine r_iconst (Y := YX9_layOrder) dX9_layOrder_62 ?_
    refine r_isub (Y := YX9_layOrder) dX9_layOrder_63 ?_
    refine r_icmp_ne (Y := YX9_layOrder) (tgt := 71) dX9_layOrder_64 (by decide) (fun c64 => ?_) (fun c64 => ?_) 
    · refine r_iconst (Y := YX9_layOrder) dX9_layOrder_71 ?_
      refine r_zreturn (Y := YX9_layOrder) dX9_layOrder_72 (by decide) ?_
      first
        | exact ⟨Or.inl ⟨rfl, by omega⟩, hmem, hF⟩
        | exact ⟨Or.inr ⟨rfl, by omega⟩, hmem, hF⟩
    · refine r_iconst (Y := YX9_layOrder) dX9_layOrder_67 ?_
      refine r_goto (Y := YX9_layOrder) (tgt := 72) dX9_layOrder_68 (by decide) ?_
      refine r_zreturn (Y := YX9_layOrder) dX9_layOrder_72 (by decide) ?_
      first
        | exact ⟨Or.inl ⟨rfl, by omega⟩, hmem, hF⟩
        | exact ⟨Or.inr ⟨rfl, by omega⟩, hmem, hF⟩
  | succ r ih =>
    intro left had kk tl τ e1 e2 e3 e4 e5 e6 e7 e8 hF
    have hcn : τ m 12 = ((xs.length : Nat) : Int) := by rw [hF _ _ (by omega)]; exact hE.1
    have hml := Nat.mod_lt left (show xs.length > 0 by omega)
    have hdl := Nat.div_le_self left xs.length
    have hsb := sb_bd hL e4 e5 hml
    have e9 : dl xs.length (r + 1) left = dl xs.length r (left / xs.length) ++ [((left % xs.length : Nat) : Int)] := rfl
    have ih := ih (left / xs.length) (sb had (left % xs.length)) (kk + -1) (((left % xs.length : Nat) : Int) :: tl) (up τ (m + 21) kk ((left % xs.length : Nat) : Int)) (by rw [e1, e9, List.append_assoc]; rfl) (by omega) (by omega) hsb.1.1 hsb.1.2 (by rw [← e6, e9, setL_app, Int.toNat_natCast, setL_sb hL hml _ _ (dl_mem (by omega) r _) e4 e5]) (by omega) (fun i v hv => by
      cases i with
      | zero =>
        have e : ((left % xs.length : Nat) : Int) = v := Option.some.inj hv
        rw [← e, show (((r + 0 : Nat)) : Int) = kk by omega]
        exact up_same _ _ _ _
      | succ i =>
        have h9 := e8 i v hv
        rw [← h9, show (((r + (i + 1) : Nat)) : Int) = (((r + 1 + i : Nat)) : Int) by omega]
        exact up_ne (by omega)) (fun k i h => by rw [up_ne (by omega)]; exact hF k i h)
    refine r_iload (Y := YX9_layOrder) dX9_layOrder_12 rfl ?_
    refine r_if_lt (Y := YX9_layOrder) (tgt := 55) dX9_layOrder_14 (by decide) (fun c14 => absurd c14 (by omega)) (fun c14 => ?_) 
    refine r_aload_n (Y := YX9_layOrder) dX9_layOrder_17 rfl ?_
    refine r_getR (Y := YX9_layOrder) (δz := 21) fl_X9_70 dX9_layOrder_18 rfl rfl ?_
    refine r_iload (Y := YX9_layOrder) dX9_layOrder_21 rfl ?_
    refine r_iload_n (Y := YX9_layOrder) dX9_layOrder_23 rfl ?_
    refine r_aload_n (Y := YX9_layOrder) dX9_layOrder_24 rfl ?_
    refine r_getV (Y := YX9_layOrder) (v := ((xs.length : Nat) : Int)) (jz := 12) fl_X9_206 dX9_layOrder_25 (hcn) ?_
    refine r_irem (Y := YX9_layOrder) dX9_layOrder_28 ?_
    refine r_top (Y := YX9_layOrder) (v := ((left % xs.length : Nat) : Int)) (by rw [Int.tmod_eq_emod_of_nonneg (by omega), Int.natCast_emod]) ?_
    refine r_iastore (Y := YX9_layOrder) dX9_layOrder_29 ?_
    refine r_iload_n (Y := YX9_layOrder) dX9_layOrder_30 rfl ?_
    refine r_iconst (Y := YX9_layOrder) dX9_layOrder_31 ?_
    refine r_aload_n (Y := YX9_layOrder) dX9_layOrder_32 rfl ?_
    refine r_getR (Y := YX9_layOrder) (δz := 21) fl_X9_70 dX9_layOrder_33 rfl rfl ?_
    refine r_iload (Y := YX9_layOrder) dX9_layOrder_36 rfl ?_
    refine r_iaV (Y := YX9_layOrder) (v := ((left % xs.length : Nat) : Int)) dX9_layOrder_38 (up_same _ _ _ _) ?_
    refine r_ishl (Y := YX9_layOrder) dX9_layOrder_39 ?_
    refine r_ior (Y := YX9_layOrder) dX9_layOrder_40 ?_
    refine r_istore_n (Y := YX9_layOrder) dX9_layOrder_41 ?_
    refine r_iload_n (Y := YX9_layOrder) dX9_layOrder_42 rfl ?_
    refine r_aload_n (Y := YX9_layOrder) dX9_layOrder_43 rfl ?_
    refine r_getV (Y := YX9_layOrder) (v := ((xs.length : Nat) : Int)) (jz := 12) fl_X9_206 dX9_layOrder_44 ((by rw [← hcn]; exact (by (try delta up); (try delta cpy); (try dsimp only); repeat (first | rw [if_pos (by omega)] | rw [if_neg (by omega)]); try (first | rfl | assumption | omega)))) ?_
    refine r_idiv (Y := YX9_layOrder) dX9_layOrder_47 ?_
    refine r_top (Y := YX9_layOrder) (v := ((left / xs.length : Nat) : Int)) (by rw [Int.natCast_ediv]) ?_
    refine r_istore_n (Y := YX9_layOrder) dX9_layOrder_48 ?_
    refine r_iinc (Y := YX9_layOrder) dX9_layOrder_49 rfl ?_
    refine r_goto (Y := YX9_layOrder) (tgt := 12) dX9_layOrder_52 (by decide) ?_
    exact R2.weak (by repeat first | exact trivial | refine And.intro rfl ?_) ih
set_option maxRecDepth 20000 in
theorem c_X9_worthOfOrder {σ : ab_S} {m : Int} (hm : kd_ m 9 37) {xs : List (Int × Int)} (hE : RLq σ m 9 10 12 xs) (hL : xs.length ≤ 6) (hO : OKL xs) {A : AB} (hA : MM σ m A) (hW : WA A) {L : List Int} (hLn : L.length = xs.length) (hLm : ∀ l ∈ L, 0 ≤ l ∧ l < xs.length) (hR : ∀ (i : Nat) (v : Int), L[i]? = some v → σ (m + 21) i = v) : C2 YX9_worthOfOrder 2 σ [rf m] (PI fun σ' z => z = (sim xs (bearsA A) L (0, 0)).1 ∧ FM σ σ' m) := by
  obtain ⟨k1, k2, k3, k4, k5, k6, k7, k8, k9, k10, k11, k12, k13, k14, k15, k16, k17, k18, k19, k20, k21, k22, k23, k24, k25, k26⟩ := kd_model hm
  refine C2.of (by decide +kernel) (Nat.le_of_ble_eq_true rfl) ?_
  refine r_aload_n (Y := YX9_worthOfOrder) dX9_worthOfOrder_0 rfl ?_
  refine r_iV0V (Y := YX9_worthOfOrder) mv_X9_159 dX9_worthOfOrder_1 (c_layNow hm hA hW) (by assumption) (fun σ1 h1 => ?_)
  obtain ⟨t1, t2⟩ := h1
  refine r_iconst (Y := YX9_worthOfOrder) dX9_worthOfOrder_4 ?_
  refine r_istore_n (Y := YX9_worthOfOrder) dX9_worthOfOrder_5 ?_
  refine r_iconst (Y := YX9_worthOfOrder) dX9_worthOfOrder_6 ?_
  refine r_istore_n (Y := YX9_worthOfOrder) dX9_worthOfOrder_7 ?_
  suffices hloop : ∀ (rest : List Int) (k cn : Nat) (g : Int) (τ : ab_S), L.drop k = rest → k ≤ L.length → sim xs (bearsA A) rest (g, (cn : Int)) = sim xs (bearsA A) L (0, 0) → cn ≤ k → MT τ m (crN A cn) → FM σ τ m → R2 YX9_worthOfOrder 2 τ 8 [some (rf m), some (iv g), some (iv k)] [] (PI fun σ' z => z = (sim xs (bearsA A) L (0, 0)).1 ∧ FM σ σ' m) from
    R2.weak (by repeat first | exact trivial | refine And.intro rfl ?_) (hloop L 0 0 0 _ rfl (by omega) rfl (Nat.le_refl 0) t1 t2)
  intro rest
  induction rest with
  | nil =>
    intro k cn g τ e1 e2 e3 e4 e5 e6
    have e7 : L.length ≤ k := List.drop_eq_nil_iff.mp e1
    have hcn : τ m 12 = ((xs.length : Nat) : Int) := by rw [e6 _ _ (by omega) (by omega)]; exact hE.1
    refine r_iload_n (Y := YX9_worthOfOrder) dX9_worthOfOrder_8 rfl ?_
    refine r_aload_n (Y := YX9_worthOfOrder) dX9_worthOfOrder_9 rfl ?_
    refine r_getV (Y := YX9_worthOfOrder) (v := ((xs.length : Nat) : Int)) (jz := 12) fl_X9_206 dX9_worthOfOrder_10 (hcn) ?_
    refine r_icmp_ge (Y := YX9_worthOfOrder) (tgt := 59) dX9_worthOfOrder_13 (by decide) (fun c13 => ?_) (fun c13 => absurd c13 (by omega)) 
    refine r_iload_n (Y := YX9_worthOfOrder) dX9_worthOfOrder_59 rfl ?_
    refine r_ireturn (Y := YX9_worthOfOrder) dX9_worthOfOrder_60 ?_
    exact ⟨by rw [← e3]; rfl, e6⟩
  | cons l rest ih =>
    intro k cn g τ e1 e2 e3 e4 e5 e6
    have hcn : τ m 12 = ((xs.length : Nat) : Int) := by rw [e6 _ _ (by omega) (by omega)]; exact hE.1
    obtain ⟨x1, x2, x3⟩ := drop_at e1
    have hl := hLm l (List.mem_of_getElem? x1)
    have hov : τ (m + 21) k = l := by rw [e6 _ _ (by omega) (by omega)]; exact hR k l x1
    obtain ⟨q, hq, hqm⟩ := getP_some (show l.toNat < xs.length by omega)
    have hqv := hE.2 l.toNat q hq
    rw [show ((l.toNat : Nat) : Int) = l by omega] at hqv
    have hlw := lw_get hq
    have hqb := hO q hqm
    have hw1 : τ (m + 9) l = q.1 := by rw [e6 _ _ (by omega) (by omega)]; exact hqv.1
    have hw2 : τ (m + 10) l = q.2 := by rw [e6 _ _ (by omega) (by omega)]; exact hqv.2
    have hWc := WA_crN hW cn
    have hbc := bears_cr hW cn
    have hbb := bears_bd hW (x := cn) (by omega)
    have e8 : sim xs (bearsA A) rest (simS xs (bearsA A) (g, (cn : Int)) l) = sim xs (bearsA A) L (0, 0) := e3
    unfold simS at e8
    rw [hlw.1, hlw.2] at e8
    dsimp only at e8
    refine r_iload_n (Y := YX9_worthOfOrder) dX9_worthOfOrder_8 rfl ?_
    refine r_aload_n (Y := YX9_worthOfOrder) dX9_worthOfOrder_9 rfl ?_
    refine r_getV (Y := YX9_worthOfOrder) (v := ((xs.length : Nat) : Int)) (jz := 12) fl_X9_206 dX9_worthOfOrder_10 (hcn) ?_
    refine r_icmp_ge (Y := YX9_worthOfOrder) (tgt := 59) dX9_worthOfOrder_13 (by decide) (fun c13 => absurd c13 (by omega)) (fun c13 => ?_) 
    refine r_aload_n (Y := YX9_worthOfOrder) dX9_worthOfOrder_16 rfl ?_
    refine r_getR (Y := YX9_worthOfOrder) (δz := 9) fl_X9_34 dX9_worthOfOrder_17 rfl rfl ?_
    refine r_aload_n (Y := YX9_worthOfOrder) dX9_worthOfOrder_20 rfl ?_
    refine r_getR (Y := YX9_worthOfOrder) (δz := 21) fl_X9_70 dX9_worthOfOrder_21 rfl rfl ?_
    refine r_iload_n (Y := YX9_worthOfOrder) dX9_worthOfOrder_24 rfl ?_
    refine r_iaV (Y := YX9_worthOfOrder) (v := l) dX9_worthOfOrder_25 (hov) ?_
    refine r_iaV (Y := YX9_worthOfOrder) (v := q.1) dX9_worthOfOrder_26 (hw1) ?_
    refine r_aload_n (Y := YX9_worthOfOrder) dX9_worthOfOrder_27 rfl ?_
    refine r_iV0I (Y := YX9_worthOfOrder) mv_X9_185 dX9_worthOfOrder_28 (c_X9_borne hm e5 hWc) (by assumption) (fun σ28 z28 h28 => ?_)
    obtain ⟨e28, f28⟩ := h28
    subst e28
    rw [hbc] at f28
    subst f28
    refine r_icmp_gt (Y := YX9_worthOfOrder) (tgt := 53) dX9_worthOfOrder_31 (by decide) (fun c31 => ?_) (fun c31 => ?_) 
    · refine r_iinc (Y := YX9_worthOfOrder) dX9_worthOfOrder_53 rfl ?_
      refine r_goto (Y := YX9_worthOfOrder) (tgt := 8) dX9_worthOfOrder_56 (by decide) ?_
      first
        | (rw [if_neg (by omega)] at e8; exact R2.weak (by repeat first | exact trivial | refine And.intro rfl ?_) (ih (k + 1) cn g _ x2 (by omega) e8 (by omega) e5 e6))
        | (rw [if_pos (by omega)] at e8; exact R2.weak (by repeat first | exact trivial | refine And.intro rfl ?_) (ih (k + 1) (cn + 1) (g + q.2) _ x2 (by omega) e8 (by omega) f1 (e6.tr f2)))
    · refine r_iload_n (Y := YX9_worthOfOrder) dX9_worthOfOrder_34 rfl ?_
      refine r_aload_n (Y := YX9_worthOfOrder) dX9_worthOfOrder_35 rfl ?_
      refine r_getR (Y := YX9_worthOfOrder) (δz := 10) fl_X9_37 dX9_worthOfOrder_36 rfl rfl ?_
      refine r_aload_n (Y := YX9_worthOfOrder) dX9_worthOfOrder_39 rfl ?_
      refine r_getR (Y := YX9_worthOfOrder) (δz := 21) fl_X9_70 dX9_worthOfOrder_40 rfl rfl ?_
      refine r_iload_n (Y := YX9_worthOfOrder) dX9_worthOfOrder_43 rfl ?_
      refine r_iaV (Y := YX9_worthOfOrder) (v := l) dX9_worthOfOrder_44 (hov) ?_
      refine r_iaV (Y := YX9_worthOfOrder) (v := q.2) dX9_worthOfOrder_45 (hw2) ?_
      refine r_iadd (Y := YX9_worthOfOrder) dX9_worthOfOrder_46 ?_
      refine r_istore_n (Y := YX9_worthOfOrder) dX9_worthOfOrder_47 ?_
      refine r_aload_n (Y := YX9_worthOfOrder) dX9_worthOfOrder_48 rfl ?_
      refine r_iconst (Y := YX9_worthOfOrder) dX9_worthOfOrder_49 ?_
      refine r_iV1V (Y := YX9_worthOfOrder) mv_X9_111 dX9_worthOfOrder_50 (c_X9_lose hm e5 hWc (x := 1) (by omega) (by omega)) (by assumption) (fun σ50 h50 => ?_)
      obtain ⟨f1, f2⟩ := h50
      refine r_iinc (Y := YX9_worthOfOrder) dX9_worthOfOrder_53 rfl ?_
      refine r_goto (Y := YX9_worthOfOrder) (tgt := 8) dX9_worthOfOrder_56 (by decide) ?_
      first
        | (rw [if_neg (by omega)] at e8; exact R2.weak (by repeat first | exact trivial | refine And.intro rfl ?_) (ih (k + 1) cn g _ x2 (by omega) e8 (by omega) e5 e6))
        | (rw [if_pos (by omega)] at e8; exact R2.weak (by repeat first | exact trivial | refine And.intro rfl ?_) (ih (k + 1) (cn + 1) (g + q.2) _ x2 (by omega) e8 (by omega) f1 (e6.tr f2)))
set_option maxRecDepth 20000 in
theorem c_X9_best {σ : ab_S} {m : Int} {G : GS} (hm : kd_ m 9 37) (hM : HM σ m G) (hG : OKG G) {i : Int} (hi1 : -2147483648 ≤ i) (hi2 : i ≤ 2147483647) : C2 YX9_best 3 σ [rf m, iv i] (PI fun σ' z => z = (bestF G i).1 ∧ HM σ' m (bestF G i).2 ∧ FY σ σ' m) := by
  obtain ⟨k1, k2, k3, k4, k5, k6, k7, k8, k9, k10, k11, k12, k13, k14, k15, k16, k17, k18, k19, k20, k21, k22, k23, k24, k25, k26⟩ := kd_model hm
  have hA := hM.1
  have hW := hG.1.1.1
  have hWL := hG.1.1.2
  have hE := hM.2.1
  have hL := hWL.1
  have hO := hG.1.2.1
  refine C2.of (by decide +kernel) (Nat.le_of_ble_eq_true rfl) ?_
  refine r_iconst (Y := YX9_best) dX9_best_0 ?_
  refine r_istore_n (Y := YX9_best) dX9_best_1 ?_
  refine r_iconst (Y := YX9_best) dX9_best_2 ?_
  refine r_istore_n (Y := YX9_best) dX9_best_3 ?_
  have hpn := pow_nn G.1.2.1.length (by omega)
  suffices hloop : ∀ (k n : Nat), n + k = G.1.2.1.length → R2 YX9_best 3 σ 4 [some (rf m), some (iv i), some (iv ((G.1.2.1.length ^ n : Nat) : Int)), some (iv n), none, none, none] [] (PI fun σ' z => z = (bestF G i).1 ∧ HM σ' m (bestF G i).2 ∧ FY σ σ' m) from
    R2.weak (by repeat first | exact trivial | refine And.intro rfl ?_) (hloop G.1.2.1.length 0 (by omega))
  intro k
  induction k with
  | zero =>
    intro n e1
    have e2 : n = G.1.2.1.length := by omega
    subst e2
    refine r_iload_n (Y := YX9_best) dX9_best_4 rfl ?_
    refine r_aload_n (Y := YX9_best) dX9_best_5 rfl ?_
    refine r_getV (Y := YX9_best) (v := ((G.1.2.1.length : Nat) : Int)) (jz := 12) fl_X9_206 dX9_best_6 (hE.1) ?_
    refine r_icmp_ge (Y := YX9_best) (tgt := 25) dX9_best_9 (by decide) (fun c9 => ?_) (fun c9 => absurd c9 (by omega)) 
    refine r_bipush (Y := YX9_best) dX9_best_25 ?_
    refine r_istore_n (Y := YX9_best) dX9_best_27 ?_
    refine r_iconst (Y := YX9_best) dX9_best_28 ?_
    refine r_istore (Y := YX9_best) dX9_best_29 ?_
    refine r_iconst (Y := YX9_best) dX9_best_31 ?_
    refine r_istore (Y := YX9_best) dX9_best_32 ?_
    suffices hlo2 : ∀ (k num first : Nat) (most : Int) (τ : ab_S), num + k = G.1.2.1.length ^ G.1.2.1.length → (most, dl G.1.2.1.length G.1.2.1.length first) = runN G.1.2.1 (bearsA G.1.1) (-6, dl G.1.2.1.length G.1.2.1.length 0) 0 num → first ≤ 100000 → -6 ≤ most → most ≤ 1000 → (∀ k i : Int, (k < m + 13 ∨ m + 19 < k) → k ≠ m + 21 → ¬ (k = m ∧ i = 23) → τ k i = σ k i) → R2 YX9_best 3 τ 34 [some (rf m), some (iv i), some (iv ((G.1.2.1.length ^ G.1.2.1.length : Nat) : Int)), some (iv most), some (iv first), some (iv num), none] [] (PI fun σ' z => z = (bestF G i).1 ∧ HM σ' m (bestF G i).2 ∧ FY σ σ' m) from
      R2.weak (by repeat first | exact trivial | refine And.intro rfl ?_) (hlo2 (G.1.2.1.length ^ G.1.2.1.length) 0 0 (-6) σ (by omega) rfl (by omega) (by omega) (by omega) (fun _ _ _ _ _ => rfl))
    intro k
    induction k with
    | zero =>
      intro num first most τ e3 e4 e5 e6 e7 hF
      have e8 : num = G.1.2.1.length ^ G.1.2.1.length := by omega
      subst e8
      rw [best_run hL hO] at e4
      have e9 : most = VV G.1.2.1 (bearsA G.1.1) G.1.2.1.length 0 0 := congrArg Prod.fst e4
      have e10 : dl G.1.2.1.length G.1.2.1.length first = ords G.1.2.1 (bearsA G.1.1) G.1.2.1.length 0 0 := congrArg Prod.snd e4
      have hMτ : HM τ m G := hM.kept (fun k i b => hF k i (by omega) (by omega) (by omega))
      have hol := ords_len (xs := G.1.2.1) (B := (bearsA G.1.1)) G.1.2.1.length 0 0
      refine r_iload (Y := YX9_best) dX9_best_34 rfl ?_
      refine r_iload_n (Y := YX9_best) dX9_best_36 rfl ?_
      refine r_icmp_ge (Y := YX9_best) (tgt := 74) dX9_best_37 (by decide) (fun c37 => ?_) (fun c37 => absurd c37 (by omega)) 
      refine r_iload_n (Y := YX9_best) dX9_best_74 rfl ?_
      refine r_iconst (Y := YX9_best) dX9_best_75 ?_
      refine r_icmp_ne (Y := YX9_best) (tgt := 81) dX9_best_76 (by decide) (fun c76 => ?_) (fun c76 => ?_) 
      · have hEt := hMτ.2.1
        refine r_aload_n (Y := YX9_best) dX9_best_81 rfl ?_
        refine r_iload (Y := YX9_best) dX9_best_82 rfl ?_
        refine r_iV1I (Y := YX9_best) mv_X9_209 dX9_best_84 (c_X9_layOrder hm hEt hL e5) (by assumption) (fun σ84 z84 h84 => ?_)
        obtain ⟨d84, g84, f84⟩ := h84
        refine r_pop (Y := YX9_best) dX9_best_87 ?_
        have hcn : σ84 m 12 = ((G.1.2.1.length : Nat) : Int) := by rw [f84 _ _ (by omega)]; exact hEt.1
        refine r_iload_n (Y := YX9_best) dX9_best_88 rfl ?_
        refine r_i2l (Y := YX9_best) dX9_best_89 ?_
        refine r_lconst (Y := YX9_best) (v := 0) dX9_best_90 rfl ?_
        refine r_aload_n (Y := YX9_best) dX9_best_91 rfl ?_
        refine r_getV (Y := YX9_best) (v := ((G.1.2.1.length : Nat) : Int)) (jz := 12) fl_X9_206 dX9_best_92 (hcn) ?_
        refine r_iconst (Y := YX9_best) dX9_best_95 ?_
        refine r_isub (Y := YX9_best) dX9_best_96 ?_
        refine r_i2l (Y := YX9_best) dX9_best_97 ?_
        refine r_iS3I (Y := YX9_best) ms_X9_95 dX9_best_98 (c_in (by omega) (by omega) (by omega) (by omega) (by omega) (by omega)) (fun σ98 z98 h98 => ?_)
        obtain ⟨rfl, h98⟩ := h98
        refine r_if_eq (Y := YX9_best) (tgt := 113) dX9_best_101 (by decide) (fun c101 => ?_) (fun c101 => ?_) 
        · refine r_bipush (Y := YX9_best) dX9_best_113 ?_
          refine r_ireturn (Y := YX9_best) dX9_best_115 ?_
          have hM9 := hMτ.kept (fun k i b => f84 k i (by omega))
          have hF9 : ∀ k i : Int, k < m ∨ m + 26 < k → σ98 k i = σ k i := fun k i b => by rw [f84 k i (by omega)]; exact hF k i (by omega) (by omega) (by omega)
          unfold bestF
          (repeat (first | rw [if_pos (by omega)] | rw [if_neg (by omega)]))
          first
            | exact ⟨rfl, hM9, hF9⟩
            | exact ⟨by show v = (ords G.1.2.1 (bearsA G.1.1) G.1.2.1.length 0 0).getD i.toNat 0; rw [List.getD_eq_getElem?_getD, hv]; rfl, hM9, hF9⟩
        · obtain ⟨v, hv, _⟩ := getI_some (L := ords G.1.2.1 (bearsA G.1.1) G.1.2.1.length 0 0) (i := i.toNat) (by omega)
          have hov := g84 i.toNat v (by rw [e10]; exact hv)
          rw [show ((i.toNat : Nat) : Int) = i by omega] at hov
          refine r_aload_n (Y := YX9_best) dX9_best_104 rfl ?_
          refine r_getR (Y := YX9_best) (δz := 21) fl_X9_70 dX9_best_105 rfl rfl ?_
          refine r_iload_n (Y := YX9_best) dX9_best_108 rfl ?_
          refine r_iaV (Y := YX9_best) (v := v) dX9_best_109 (hov) ?_
          refine r_goto (Y := YX9_best) (tgt := 115) dX9_best_110 (by decide) ?_
          refine r_ireturn (Y := YX9_best) dX9_best_115 ?_
          have hM9 := hMτ.kept (fun k i b => f84 k i (by omega))
          have hF9 : ∀ k i : Int, k < m ∨ m + 26 < k → σ98 k i = σ k i := fun k i b => by rw [f84 k i (by omega)]; exact hF k i (by omega) (by omega) (by omega)
          unfold bestF
          (repeat (first | rw [if_pos (by omega)] | rw [if_neg (by omega)]))
          first
            | exact ⟨rfl, hM9, hF9⟩
            | exact ⟨by show v = (ords G.1.2.1 (bearsA G.1.1) G.1.2.1.length 0 0).getD i.toNat 0; rw [List.getD_eq_getElem?_getD, hv]; rfl, hM9, hF9⟩
      · refine r_iload_n (Y := YX9_best) dX9_best_79 rfl ?_
        refine r_ireturn (Y := YX9_best) dX9_best_80 ?_
        unfold bestF
        (repeat (first | rw [if_pos (by omega)] | rw [if_neg (by omega)]))
        exact ⟨e9, hMτ, fun k i b => hF k i (by omega) (by omega) (by omega)⟩
    | succ k ih =>
      intro num first most τ e3 e4 e5 e6 e7 hF
      have hMτ : HM τ m G := hM.kept (fun k i b => hF k i (by omega) (by omega) (by omega))
      have hrs : runN G.1.2.1 (bearsA G.1.1) (-6, dl G.1.2.1.length G.1.2.1.length 0) 0 (num + 1) = tryO G.1.2.1 (bearsA G.1.1) (runN G.1.2.1 (bearsA G.1.1) (-6, dl G.1.2.1.length G.1.2.1.length 0) 0 num) num := by
        show tryO G.1.2.1 (bearsA G.1.1) (runN G.1.2.1 (bearsA G.1.1) (-6, dl G.1.2.1.length G.1.2.1.length 0) 0 num) (0 + num) = _
        rw [Nat.zero_add]
      rw [← e4] at hrs
      have hdm : ∀ l ∈ dl G.1.2.1.length G.1.2.1.length num, 0 ≤ l ∧ l < G.1.2.1.length := fun l hl => by
        by_cases h1 : 1 ≤ G.1.2.1.length
        · exact dl_mem h1 _ _ l hl
        · rw [show dl G.1.2.1.length G.1.2.1.length num = [] from List.eq_nil_of_length_eq_zero (by rw [dl_len]; omega)] at hl
          cases hl
      have hsd := sim_bd (B := (bearsA G.1.1)) hO (dl G.1.2.1.length G.1.2.1.length num) (0, 0) hdm
      rw [dl_len] at hsd
      dsimp only at hsd
      have ih := ih (num + 1)
      rw [hrs] at ih
      unfold tryO at ih
      refine r_iload (Y := YX9_best) dX9_best_34 rfl ?_
      refine r_iload_n (Y := YX9_best) dX9_best_36 rfl ?_
      refine r_icmp_ge (Y := YX9_best) (tgt := 74) dX9_best_37 (by decide) (fun c37 => absurd c37 (by omega)) (fun c37 => ?_) 
      refine r_aload_n (Y := YX9_best) dX9_best_40 rfl ?_
      refine r_iload (Y := YX9_best) dX9_best_41 rfl ?_
      refine r_iV1I (Y := YX9_best) mv_X9_209 dX9_best_43 (c_X9_layOrder hm hMτ.2.1 hL (by omega)) (by assumption) (fun σ43 z43 h43 => ?_)
      obtain ⟨d43, g43, f43⟩ := h43
      have hM9 := hMτ.kept (fun k i b => f43 k i (by omega))
      refine r_if_eq (Y := YX9_best) (tgt := 68) dX9_best_46 (by decide) (fun c46 => ?_) (fun c46 => ?_) 
      · refine r_iinc (Y := YX9_best) dX9_best_68 rfl ?_
        refine r_goto (Y := YX9_best) (tgt := 34) dX9_best_71 (by decide) ?_
        first
          | (exact R2.weak (by repeat first | exact trivial | refine And.intro rfl ?_) (ih first most _ (by omega) (if_neg (fun hx => by rcases d43 with q | q; (exfalso; omega); exact q.2 hx.1)).symm e5 e6 e7 (fun k i a b c => by rw [f43 k i b]; exact hF k i a b c)))
          | (have ih9 := ih first most σ50 (by omega) (if_neg (fun hx => by have hx2 : most < (sim G.1.2.1 (bearsA G.1.1) (dl G.1.2.1.length G.1.2.1.length num) (0, 0)).1 := hx.2; omega)).symm e5 e6 e7 (fun k i a b c => by rw [w50 k i a c, f43 k i b]; exact hF k i a b c)
             exact R2.weak (by repeat first | exact trivial | refine And.intro rfl ?_) ih9)
          | (have ih9 := ih num (sim G.1.2.1 (bearsA G.1.1) (dl G.1.2.1.length G.1.2.1.length num) (0, 0)).1 σ50 (by omega) (if_pos ⟨by rcases d43 with q | q; exact q.2; (exfalso; omega), by show most < (sim G.1.2.1 (bearsA G.1.1) (dl G.1.2.1.length G.1.2.1.length num) (0, 0)).1; omega⟩).symm (by omega) (by omega) (by omega) (fun k i a b c => by rw [w50 k i a c, f43 k i b]; exact hF k i a b c)
             exact R2.weak (by repeat first | exact trivial | refine And.intro rfl ?_) ih9)
      · refine r_aload_n (Y := YX9_best) dX9_best_49 rfl ?_
        refine r_iV0I (Y := YX9_best) mv_X9_212 dX9_best_50 (c_X9_worthOfOrder hm hM9.2.1 hL hO hM9.1 hW (dl_len _ _ _) hdm g43) (by assumption) (fun σ50 z50 h50 => ?_)
        obtain ⟨rfl, w50⟩ := h50
        refine r_istore (Y := YX9_best) dX9_best_53 ?_
        refine r_iload (Y := YX9_best) dX9_best_55 rfl ?_
        refine r_iload_n (Y := YX9_best) dX9_best_57 rfl ?_
        refine r_icmp_le (Y := YX9_best) (tgt := 68) dX9_best_58 (by decide) (fun c58 => ?_) (fun c58 => ?_) 
        · refine r_iinc (Y := YX9_best) dX9_best_68 rfl ?_
          refine r_goto (Y := YX9_best) (tgt := 34) dX9_best_71 (by decide) ?_
          first
            | (exact R2.weak (by repeat first | exact trivial | refine And.intro rfl ?_) (ih first most _ (by omega) (if_neg (fun hx => by rcases d43 with q | q; (exfalso; omega); exact q.2 hx.1)).symm e5 e6 e7 (fun k i a b c => by rw [f43 k i b]; exact hF k i a b c)))
            | (have ih9 := ih first most σ50 (by omega) (if_neg (fun hx => by have hx2 : most < (sim G.1.2.1 (bearsA G.1.1) (dl G.1.2.1.length G.1.2.1.length num) (0, 0)).1 := hx.2; omega)).symm e5 e6 e7 (fun k i a b c => by rw [w50 k i a c, f43 k i b]; exact hF k i a b c)
               exact R2.weak (by repeat first | exact trivial | refine And.intro rfl ?_) ih9)
            | (have ih9 := ih num (sim G.1.2.1 (bearsA G.1.1) (dl G.1.2.1.length G.1.2.1.length num) (0, 0)).1 σ50 (by omega) (if_pos ⟨by rcases d43 with q | q; exact q.2; (exfalso; omega), by show most < (sim G.1.2.1 (bearsA G.1.1) (dl G.1.2.1.length G.1.2.1.length num) (0, 0)).1; omega⟩).symm (by omega) (by omega) (by omega) (fun k i a b c => by rw [w50 k i a c, f43 k i b]; exact hF k i a b c)
               exact R2.weak (by repeat first | exact trivial | refine And.intro rfl ?_) ih9)
        · refine r_iload (Y := YX9_best) dX9_best_61 rfl ?_
          refine r_istore_n (Y := YX9_best) dX9_best_63 ?_
          refine r_iload (Y := YX9_best) dX9_best_64 rfl ?_
          refine r_istore (Y := YX9_best) dX9_best_66 ?_
          refine r_iinc (Y := YX9_best) dX9_best_68 rfl ?_
          refine r_goto (Y := YX9_best) (tgt := 34) dX9_best_71 (by decide) ?_
          first
            | (exact R2.weak (by repeat first | exact trivial | refine And.intro rfl ?_) (ih first most _ (by omega) (if_neg (fun hx => by rcases d43 with q | q; (exfalso; omega); exact q.2 hx.1)).symm e5 e6 e7 (fun k i a b c => by rw [f43 k i b]; exact hF k i a b c)))
            | (have ih9 := ih first most σ50 (by omega) (if_neg (fun hx => by have hx2 : most < (sim G.1.2.1 (bearsA G.1.1) (dl G.1.2.1.length G.1.2.1.length num) (0, 0)).1 := hx.2; omega)).symm e5 e6 e7 (fun k i a b c => by rw [w50 k i a c, f43 k i b]; exact hF k i a b c)
               exact R2.weak (by repeat first | exact trivial | refine And.intro rfl ?_) ih9)
            | (have ih9 := ih num (sim G.1.2.1 (bearsA G.1.1) (dl G.1.2.1.length G.1.2.1.length num) (0, 0)).1 σ50 (by omega) (if_pos ⟨by rcases d43 with q | q; exact q.2; (exfalso; omega), by show most < (sim G.1.2.1 (bearsA G.1.1) (dl G.1.2.1.length G.1.2.1.length num) (0, 0)).1; omega⟩).symm (by omega) (by omega) (by omega) (fun k i a b c => by rw [w50 k i a c, f43 k i b]; exact hF k i a b c)
               exact R2.weak (by repeat first | exact trivial | refine And.intro rfl ?_) ih9)
  | succ k ih =>
    intro n e1
    have ih := ih (n + 1) (by omega)
    rw [Nat.pow_succ, Int.natCast_mul] at ih
    refine r_iload_n (Y := YX9_best) dX9_best_4 rfl ?_
    refine r_aload_n (Y := YX9_best) dX9_best_5 rfl ?_
    refine r_getV (Y := YX9_best) (v := ((G.1.2.1.length : Nat) : Int)) (jz := 12) fl_X9_206 dX9_best_6 (hE.1) ?_
    refine r_icmp_ge (Y := YX9_best) (tgt := 25) dX9_best_9 (by decide) (fun c9 => absurd c9 (by omega)) (fun c9 => ?_) 
    refine r_iload_n (Y := YX9_best) dX9_best_12 rfl ?_
    refine r_aload_n (Y := YX9_best) dX9_best_13 rfl ?_
    refine r_getV (Y := YX9_best) (v := ((G.1.2.1.length : Nat) : Int)) (jz := 12) fl_X9_206 dX9_best_14 (hE.1) ?_
    refine r_imul (Y := YX9_best) dX9_best_17 ?_
    refine r_istore_n (Y := YX9_best) dX9_best_18 ?_
    refine r_iinc (Y := YX9_best) dX9_best_19 rfl ?_
    refine r_goto (Y := YX9_best) (tgt := 4) dX9_best_22 (by decide) ?_
    exact R2.weak (by repeat first | exact trivial | refine And.intro rfl ?_) ih
