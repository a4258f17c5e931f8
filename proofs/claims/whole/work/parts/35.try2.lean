/-! renewal: all ways -/
set_option maxRecDepth 20000 in
theorem tf_zero : TF 0 := by
  intro σ g w A od pre inc need st hg hw1 hw2 hA hW hP hS hl hTr h0 h1 h3 hn1 hn2
  obtain ⟨k1, k2, k3, k4, k5, k6⟩ := kd_renewal hg
  have hS6 := hS.1
  have em : mrg st pre inc (ren need 0 A) = (inc, pre) := by
    show (if inc + 0 < st.1 then (inc + 0, pre ++ []) else st) = _
    rw [if_pos (by omega), List.append_nil, Int.add_zero]
  rw [em]
  refine C2.of (by decide +kernel) (Nat.le_of_ble_eq_true rfl) ?_
  refine r_iload_n (Y := YX4_tryFrom) dX4_tryFrom_0 rfl ?_
  refine r_aload_n (Y := YX4_tryFrom) dX4_tryFrom_1 rfl ?_
  refine r_getV (Y := YX4_tryFrom) (v := w) (jz := 6) fl_X4_36 dX4_tryFrom_2 ((by omega)) ?_
  refine r_icmp_lt (Y := YX4_tryFrom) (tgt := 31) dX4_tryFrom_5 (by decide) (fun c5 => absurd c5 (by omega)) (fun c5 => ?_) 
  refine r_aload_n (Y := YX4_tryFrom) dX4_tryFrom_8 rfl ?_
  refine r_iload_n (Y := YX4_tryFrom) dX4_tryFrom_9 rfl ?_
  refine r_putI (Y := YX4_tryFrom) (jz := 8) fp_X4_43 dX4_tryFrom_10 ?_
  refine r_aload_n (Y := YX4_tryFrom) dX4_tryFrom_13 rfl ?_
  refine r_getR (Y := YX4_tryFrom) (δz := 128) fl_X4_30 dX4_tryFrom_14 rfl rfl ?_
  refine r_iconst (Y := YX4_tryFrom) dX4_tryFrom_17 ?_
  refine r_aload_n (Y := YX4_tryFrom) dX4_tryFrom_18 rfl ?_
  refine r_getR (Y := YX4_tryFrom) (δz := 129) fl_X4_33 dX4_tryFrom_19 rfl rfl ?_
  refine r_iconst (Y := YX4_tryFrom) dX4_tryFrom_22 ?_
  refine r_aload_n (Y := YX4_tryFrom) dX4_tryFrom_23 rfl ?_
  refine r_getV (Y := YX4_tryFrom) (v := w) (jz := 6) fl_X4_36 dX4_tryFrom_24 ((by rw [show w = σ g 6 by omega]; exact (by (try delta up); (try delta cpy); (try dsimp only); repeat (first | rw [if_pos (by omega)] | rw [if_neg (by omega)]); try (first | rfl | assumption | omega)))) ?_
  refine r_copy (Y := YX4_tryFrom) wa_X4_61 dX4_tryFrom_27 (by assumption) (by assumption) ?_
  refine r_return (Y := YX4_tryFrom) dX4_tryFrom_30 ?_
  refine ⟨⟨?_, ?_, ⟨hS.2.2.1.1, fun i x hx => ?_⟩, ?_, fun i c hc => ?_⟩, fun q i h9 => by (try delta up); (try delta cpy); (try dsimp only); repeat (first | rw [if_pos (by omega)] | rw [if_neg (by omega)]); try (first | rfl | assumption | omega)⟩
  · rw [← hS.1]; exact (by (try delta up); (try delta cpy); (try dsimp only); repeat (first | rw [if_pos (by omega)] | rw [if_neg (by omega)]); try (first | rfl | assumption | omega))
  · rw [← hS.2.1]; exact (by (try delta up); (try delta cpy); (try dsimp only); repeat (first | rw [if_pos (by omega)] | rw [if_neg (by omega)]); try (first | rfl | assumption | omega))
  · rw [← hS.2.2.1.2 i x hx]; exact (by (try delta up); (try delta cpy); (try dsimp only); repeat (first | rw [if_pos (by omega)] | rw [if_neg (by omega)]); try (first | rfl | assumption | omega))
  · exact (by (try delta up); (try delta cpy); (try dsimp only); repeat (first | rw [if_pos (by omega)] | rw [if_neg (by omega)]); try (first | rfl | assumption | omega))
  · have hi := (List.getElem?_eq_some_iff.mp hc).1
    have hi2 : i < pre.length := hi
    rw [← hTr i c hc]
    refine Eq.trans (b := σ (g + 128) (0 + ((i : Int) - 0))) ?_ (by congr 1; omega)
    exact (by (try delta up); (try delta cpy); (try dsimp only); repeat (first | rw [if_pos (by omega)] | rw [if_neg (by omega)]); try (first | rfl | assumption | omega))
set_option maxRecDepth 20000 in
theorem tf_succ {k : Nat} (hT : TF k) : TF (k + 1) := by
  intro σ g w A od pre inc need st hg hw1 hw2 hA hW hP hS hl hTr h0 h1 h3 hn1 hn2
  obtain ⟨k1, k2, k3, k4, k5, k6⟩ := kd_renewal hg
  have ka := kd_ahead hg (i := w) (by omega) (by omega)
  obtain ⟨a1, a2, a3, a4, a5, a6⟩ := kd_abbey ka
  have mbd : ∀ n : Nat, n ≤ 25 → 0 ≤ (mrg st pre inc (renN (ren need k) need A n)).1 ∧ (mrg st pre inc (renN (ren need k) need A n)).1 ≤ 595 := fun n hn => by
    have := mrg_bd (pre := pre) (r := renN (ren need k) need A n) (fun q hq => renN_ge hW hn hq) h0 (show 0 ≤ st.1 by omega)
    omega
  refine C2.of (by decide +kernel) (Nat.le_of_ble_eq_true rfl) ?_
  refine r_iload_n (Y := YX4_tryFrom) dX4_tryFrom_0 rfl ?_
  refine r_aload_n (Y := YX4_tryFrom) dX4_tryFrom_1 rfl ?_
  refine r_getV (Y := YX4_tryFrom) (v := w + ((k + 1 : Nat) : Int)) (jz := 6) fl_X4_36 dX4_tryFrom_2 (hS.1) ?_
  refine r_icmp_lt (Y := YX4_tryFrom) (tgt := 31) dX4_tryFrom_5 (by decide) (fun c5 => ?_) (fun c5 => absurd c5 (by omega)) 
  refine r_aload_n (Y := YX4_tryFrom) dX4_tryFrom_31 rfl ?_
  refine r_iload_n (Y := YX4_tryFrom) dX4_tryFrom_32 rfl ?_
  refine r_iV1I (Y := YX4_tryFrom) mv_X4_67 dX4_tryFrom_33 (PI_zz (c_X4_isHopeless hg hw1 (by omega) hA hW (k := k + 1) (by omega) (by omega) hS.1 hS.2.1 hn1 hn2 hS.2.2.1 hP.2.1)) (by assumption) (fun σ33 z33 h33 => ?_)
  obtain ⟨rfl, h33⟩ := h33
  refine r_if_eq (Y := YX4_tryFrom) (tgt := 40) dX4_tryFrom_36 (by decide) (fun c36 => ?_) (fun c36 => ?_) 
  · refine r_aload_n (Y := YX4_tryFrom) dX4_tryFrom_40 rfl ?_
    refine r_iload_n (Y := YX4_tryFrom) dX4_tryFrom_41 rfl ?_
    refine r_iV1V (Y := YX4_tryFrom) mv_X4_71 dX4_tryFrom_42 (c_X4_foresee hg hw1 (by omega) hA hW) (by assumption) (fun σ42 h42 => ?_)
    obtain ⟨f1, f2⟩ := h42
    have hfr : FR σ33 σ42 g w w := fun q i h9 => f2 q i (by omega) (by omega)
    have hS2 := hS.kept (τ := σ42) (fun q i h9 => f2 q i (by omega) (by omega))
    refine r_aload_n (Y := YX4_tryFrom) dX4_tryFrom_45 rfl ?_
    refine r_iload_n (Y := YX4_tryFrom) dX4_tryFrom_46 rfl ?_
    refine r_iload_n (Y := YX4_tryFrom) dX4_tryFrom_47 rfl ?_
    refine r_iconst (Y := YX4_tryFrom) dX4_tryFrom_48 ?_
    refine r_iconst (Y := YX4_tryFrom) dX4_tryFrom_49 ?_
    refine r_iV4V (Y := YX4_tryFrom) mv_X4_75 dX4_tryFrom_50 (c_X4_tryStep_no hT hg hw1 hw2 (hA.fr hw1 hfr) hW hP hS2 hl (hTr.fr hl hfr) h0 (by omega) (by omega) h3 hn1 hn2 f1) (by assumption) (fun σ50 h50 => ?_)
    obtain ⟨s1, s2⟩ := h50
    refine r_iconst (Y := YX4_tryFrom) dX4_tryFrom_53 ?_
    refine r_istore_n (Y := YX4_tryFrom) dX4_tryFrom_54 ?_
    suffices hloop : ∀ (j m : Nat) (τ : ab_S), m + j = 6 → RS τ g (w + ((k + 1 : Nat) : Int)) need od (mrg st pre inc (renN (ren need k) need A (1 + 4 * m))) → FR σ33 τ g w w → FSd τ g w A → R2 YX4_tryFrom (2 * (k + 1) + 5) τ 55 [some (rf g), some (iv w), some (iv inc), some (iv m), none, none] [] (PV fun σ' => RS σ' g (w + ((k + 1 : Nat) : Int)) need od (mrg st pre inc (ren need (k + 1) A)) ∧ FR σ33 σ' g w w) from by
      refine R2.weak (by repeat first | exact trivial | refine And.intro rfl ?_) (hloop 6 0 σ50 rfl ?_ (hfr.tr (s2.weak (by omega) (by omega))) (f1.fr hw1 s2))
      exact s1
    intro j
    induction j with
    | zero =>
      intro m τ e1 e2 e3 e4
      have e5 : m = 6 := by omega
      subst e5
      refine r_iload_n (Y := YX4_tryFrom) dX4_tryFrom_55 rfl ?_
      refine r_bipush (Y := YX4_tryFrom) dX4_tryFrom_56 ?_
      refine r_icmp_ge (Y := YX4_tryFrom) (tgt := 112) dX4_tryFrom_58 (by decide) (fun c58 => ?_) (fun c58 => absurd c58 (by omega)) 
      refine r_return (Y := YX4_tryFrom) dX4_tryFrom_112 ?_
      exact ⟨e2, e3⟩
    | succ j ih =>
      intro m τ e1 e2 e3 e4
      have hAt := hA.fr hw1 e3
      have hbm := hW.2.2.1 m (by omega) (by omega)
      refine r_iload_n (Y := YX4_tryFrom) dX4_tryFrom_55 rfl ?_
      refine r_bipush (Y := YX4_tryFrom) dX4_tryFrom_56 ?_
      refine r_icmp_ge (Y := YX4_tryFrom) (tgt := 112) dX4_tryFrom_58 (by decide) (fun c58 => absurd c58 (by omega)) (fun c58 => ?_) 
      refine r_aload_n (Y := YX4_tryFrom) dX4_tryFrom_61 rfl ?_
      refine r_getR (Y := YX4_tryFrom) (δz := 1) fl_X4_11 dX4_tryFrom_62 rfl rfl ?_
      refine r_iload_n (Y := YX4_tryFrom) dX4_tryFrom_65 rfl ?_
      first | refine r_aaload (Y := YX4_tryFrom) (δz := 2) (sz := 4) dX4_tryFrom_66 tg_12 rfl rfl ?_ | refine r_aaload (Y := YX4_tryFrom) (δz := 1) (sz := 30) dX4_tryFrom_66 tg_13 rfl rfl ?_ | refine r_aaload (Y := YX4_tryFrom) (δz := 1) (sz := 23) dX4_tryFrom_66 tg_14 rfl rfl ?_ | refine r_aaload (Y := YX4_tryFrom) (δz := 1) (sz := 1) dX4_tryFrom_66 tg_15 rfl rfl ?_
      refine r_getR (Y := YX4_tryFrom) (δz := 3) fl_X4_79 dX4_tryFrom_67 rfl rfl ?_
      refine r_iload_n (Y := YX4_tryFrom) dX4_tryFrom_70 rfl ?_
      refine r_iaV (Y := YX4_tryFrom) (v := aB A m) dX4_tryFrom_71 (hAt.2.2.1 m (by omega) (by omega)) ?_
      refine r_istore (Y := YX4_tryFrom) dX4_tryFrom_72 ?_
      refine r_iconst (Y := YX4_tryFrom) dX4_tryFrom_74 ?_
      refine r_istore (Y := YX4_tryFrom) dX4_tryFrom_75 ?_
      suffices hin : ∀ (j2 r : Nat) (υ : ab_S), r + j2 = 4 → (r = 0 ∨ 0 < aB A m) → RS υ g (w + ((k + 1 : Nat) : Int)) need od (mrg st pre inc (renN (ren need k) need A (1 + 4 * m + r))) → FR σ33 υ g w w → FSd υ g w A → R2 YX4_tryFrom (2 * (k + 1) + 5) υ 77 [some (rf g), some (iv w), some (iv inc), some (iv m), some (iv (aB A m)), some (iv r)] [] (PV fun σ' => RS σ' g (w + ((k + 1 : Nat) : Int)) need od (mrg st pre inc (ren need (k + 1) A)) ∧ FR σ33 σ' g w w) from
        R2.weak (by repeat first | exact trivial | refine And.intro rfl ?_) (hin 4 0 τ rfl (Or.inl rfl) e2 e3 e4)
      intro j2
      induction j2 with
      | zero =>
        intro r υ g1 g2 g3 g4 g5
        have g6 : r = 4 := by omega
        subst g6
        refine r_iload (Y := YX4_tryFrom) dX4_tryFrom_77 rfl ?_
        refine r_iconst (Y := YX4_tryFrom) dX4_tryFrom_79 ?_
        refine r_icmp_ge (Y := YX4_tryFrom) (tgt := 106) dX4_tryFrom_80 (by decide) (fun c80 => ?_) (fun c80 => absurd c80 (by omega)) 
        refine r_iinc (Y := YX4_tryFrom) dX4_tryFrom_106 rfl ?_
        refine r_goto (Y := YX4_tryFrom) (tgt := 55) dX4_tryFrom_109 (by decide) ?_
        exact R2.weak (by repeat first | exact trivial | refine And.intro rfl ?_) (ih (m + 1) υ (by omega) (by rw [show 1 + 4 * (m + 1) = 1 + 4 * m + 4 by omega]; exact g3) g4 g5)
      | succ j2 ih2 =>
        intro r υ g1 g2 g3 g4 g5
        have hmb := mbd (1 + 4 * m + r) (by omega)
        refine r_iload (Y := YX4_tryFrom) dX4_tryFrom_77 rfl ?_
        refine r_iconst (Y := YX4_tryFrom) dX4_tryFrom_79 ?_
        refine r_icmp_ge (Y := YX4_tryFrom) (tgt := 106) dX4_tryFrom_80 (by decide) (fun c80 => absurd c80 (by omega)) (fun c80 => ?_) 
        refine r_iload (Y := YX4_tryFrom) dX4_tryFrom_83 rfl ?_
        refine r_if_le (Y := YX4_tryFrom) (tgt := 106) dX4_tryFrom_85 (by decide) (fun c85 => ?_) (fun c85 => ?_) 
        · refine r_iinc (Y := YX4_tryFrom) dX4_tryFrom_106 rfl ?_
          refine r_goto (Y := YX4_tryFrom) (tgt := 55) dX4_tryFrom_109 (by decide) ?_
          have hb0 : aB A m = 0 := by omega
          have hr0 : r = 0 := by omega
          subst hr0
          exact R2.weak (by repeat first | exact trivial | refine And.intro rfl ?_) (ih (m + 1) υ (by omega) (by rw [renN_skip hb0]; exact g3) g4 g5)
        · refine r_aload_n (Y := YX4_tryFrom) dX4_tryFrom_88 rfl ?_
          refine r_iload_n (Y := YX4_tryFrom) dX4_tryFrom_89 rfl ?_
          refine r_iload_n (Y := YX4_tryFrom) dX4_tryFrom_90 rfl ?_
          refine r_iload (Y := YX4_tryFrom) dX4_tryFrom_91 rfl ?_
          refine r_iadd (Y := YX4_tryFrom) dX4_tryFrom_93 ?_
          refine r_iload_n (Y := YX4_tryFrom) dX4_tryFrom_94 rfl ?_
          refine r_iload (Y := YX4_tryFrom) dX4_tryFrom_95 rfl ?_
          refine r_iV4V (Y := YX4_tryFrom) mv_X4_75 dX4_tryFrom_97 (c_X4_tryStep_m hT hg hw1 hw2 (hA.fr hw1 g4) hW hP g3 hl (hTr.fr hl g4) h0 (by omega) hmb.1 hmb.2 hn1 hn2 g5 (m := m) (r := r) (by omega) (by omega) (by omega) (by omega) (by omega)) (by assumption) (fun σ97 h97 => ?_)
          obtain ⟨t1, t2⟩ := h97
          rw [mrg_bet] at t1
          refine r_iinc (Y := YX4_tryFrom) dX4_tryFrom_100 rfl ?_
          refine r_goto (Y := YX4_tryFrom) (tgt := 77) dX4_tryFrom_103 (by decide) ?_
          exact R2.weak (by repeat first | exact trivial | refine And.intro rfl ?_) (ih2 (r + 1) σ97 (by omega) (Or.inr (by omega)) t1 (g4.tr (t2.weak (by omega) (by omega))) (g5.fr hw1 t2))
  · refine r_return (Y := YX4_tryFrom) dX4_tryFrom_39 ?_
    refine ⟨?_, fun _ _ _ => rfl⟩
    rw [hop_none hW hP (by omega)]
    exact hS
theorem tf_all : ∀ k : Nat, TF k
  | 0 => tf_zero
  | k + 1 => tf_succ (tf_all k)
/-- the answer of a renewal -/
noncomputable def renZ (need : Int) (k : Nat) (A : AB) : Int := match ren need k A with
  | none => -6
  | some q => q.1
set_option maxRecDepth 20000 in
theorem c_X4_fewestInches {σ : ab_S} {k : Nat} {g b : Int} {A : AB} {need : Int} (hg : kd_ g 4 9) (hk : k ≤ 4) (hb : kd_ b 0 8) (hA : RA σ b A) (hW : WA A) (hn1 : -2147483648 ≤ need) (hn2 : need ≤ 2147483647) (hap : b + 22 < g ∨ g + 129 < b) : C2 YX4_fewestInches 14 σ [rf g, rf b, iv k, iv need] (PI fun σ' z => z = renZ need k A ∧ (∀ q, ren need k A = some q → ∀ (i : Nat) (c : Int), q.2[i]? = some c → σ' (g + 129) i = cod c) ∧ ∀ k i : Int, k < g ∨ g + 129 < k → σ' k i = σ k i) := by
  obtain ⟨k1, k2, k3, k4, k5, k6⟩ := kd_renewal hg
  have ka := kd_ahead hg (i := 0) (by omega) (by omega)
  refine C2.of (by decide +kernel) (Nat.le_of_ble_eq_true rfl) ?_
  refine r_aload_n (Y := YX4_fewestInches) dX4_fewestInches_0 rfl ?_
  refine r_iload_n (Y := YX4_fewestInches) dX4_fewestInches_1 rfl ?_
  refine r_putI (Y := YX4_fewestInches) (jz := 6) fp_X4_36 dX4_fewestInches_2 ?_
  refine r_aload_n (Y := YX4_fewestInches) dX4_fewestInches_5 rfl ?_
  refine r_iload_n (Y := YX4_fewestInches) dX4_fewestInches_6 rfl ?_
  refine r_putI (Y := YX4_fewestInches) (jz := 7) fp_X4_40 dX4_fewestInches_7 ?_
  refine r_aload_n (Y := YX4_fewestInches) dX4_fewestInches_10 rfl ?_
  refine r_sipush (Y := YX4_fewestInches) dX4_fewestInches_11 ?_
  refine r_putI (Y := YX4_fewestInches) (jz := 8) fp_X4_43 dX4_fewestInches_14 ?_
  refine r_aload_n (Y := YX4_fewestInches) dX4_fewestInches_17 rfl ?_
  refine r_getR (Y := YX4_fewestInches) (δz := 1) fl_X4_11 dX4_fewestInches_18 rfl rfl ?_
  refine r_iconst (Y := YX4_fewestInches) dX4_fewestInches_21 ?_
  first | refine r_aaload (Y := YX4_fewestInches) (δz := 2) (sz := 4) dX4_fewestInches_22 tg_12 rfl rfl ?_ | refine r_aaload (Y := YX4_fewestInches) (δz := 1) (sz := 30) dX4_fewestInches_22 tg_13 rfl rfl ?_ | refine r_aaload (Y := YX4_fewestInches) (δz := 1) (sz := 23) dX4_fewestInches_22 tg_14 rfl rfl ?_ | refine r_aaload (Y := YX4_fewestInches) (δz := 1) (sz := 1) dX4_fewestInches_22 tg_15 rfl rfl ?_
  refine r_aload_n (Y := YX4_fewestInches) dX4_fewestInches_23 rfl ?_
  refine r_iV1V (Y := YX4_fewestInches) mv_X4_46 dX4_fewestInches_24 (c_X0_become ka hb (hA.kept (fun q i c1 c2 _ => by (try delta up); (try delta cpy); (try dsimp only); repeat (first | rw [if_pos (by omega)] | rw [if_neg (by omega)]); try (first | rfl | assumption | omega))) hW (by omega)) (by assumption) (fun σ24 h24 => ?_)
  obtain ⟨b1, b2⟩ := h24
  refine r_aload_n (Y := YX4_fewestInches) dX4_fewestInches_27 rfl ?_
  refine r_aload_n (Y := YX4_fewestInches) dX4_fewestInches_28 rfl ?_
  refine r_iV1V (Y := YX4_fewestInches) mv_X4_50 dX4_fewestInches_29 (c_X4_sortByBasket hg hb (A := A) (hA.kept (fun q i c1 c2 _ => by rw [b2 q i (by omega)]; exact (by (try delta up); (try delta cpy); (try dsimp only); repeat (first | rw [if_pos (by omega)] | rw [if_neg (by omega)]); try (first | rfl | assumption | omega)))) hW (by omega)) (by assumption) (fun σ29 h29 => ?_)
  obtain ⟨od, f1, f2, f3⟩ := h29
  refine r_aload_n (Y := YX4_fewestInches) dX4_fewestInches_32 rfl ?_
  refine r_iconst (Y := YX4_fewestInches) dX4_fewestInches_33 ?_
  refine r_iconst (Y := YX4_fewestInches) dX4_fewestInches_34 ?_
  have hfo : ∀ q i : Int, q < g ∨ g + 129 < q → σ29 q i = σ q i := fun q i h9 => by rw [f3 q i (by omega), b2 q i (by omega)]; exact (by (try delta up); (try delta cpy); (try dsimp only); repeat (first | rw [if_pos (by omega)] | rw [if_neg (by omega)]); try (first | rfl | assumption | omega))
  have hA3 : RA σ29 (g + 1 + (1 + 23 * 0)) A := b1.kept (fun q i c1 c2 _ => f3 q i (by omega))
  have hS3 : RS σ29 g (0 + k) need od (595, []) := ⟨by rw [f3 _ _ (by omega), b2 _ _ (by omega), Int.zero_add]; exact (by (try delta up); (try delta cpy); (try dsimp only); repeat (first | rw [if_pos (by omega)] | rw [if_neg (by omega)]); try (first | rfl | assumption | omega)), by rw [f3 _ _ (by omega), b2 _ _ (by omega)]; exact (by (try delta up); (try delta cpy); (try dsimp only); repeat (first | rw [if_pos (by omega)] | rw [if_neg (by omega)]); try (first | rfl | assumption | omega)), f1, by rw [f3 _ _ (by omega), b2 _ _ (by omega)]; exact (by (try delta up); (try delta cpy); (try dsimp only); repeat (first | rw [if_pos (by omega)] | rw [if_neg (by omega)]); try (first | rfl | assumption | omega)), fun i c hc => by cases hc⟩
  have hcall := tf_all k σ29 g 0 A od [] 0 need (595, []) hg (by omega) (by omega) hA3 hW f2 hS3 rfl (fun i c hc => by cases hc) (by omega) (by show (0 : Int) < 595; omega) (by show (595 : Int) ≤ 595; omega) hn1 hn2
  have hout : (mrg (595, []) [] 0 (ren need k A)) = match ren need k A with | none => (595, []) | some q => q := by
    cases hr : ren need k A with
    | none => rfl
    | some q =>
      have := ren_lt hW hr
      show (if 0 + q.1 < 595 then (0 + q.1, [] ++ q.2) else (595, [])) = q
      rw [if_pos (by omega), Int.zero_add, List.nil_append]
  refine r_iV2V (Y := YX4_fewestInches) mv_X4_53 dX4_fewestInches_35 (hcall) (by assumption) (fun σ35 h35 => ?_)
  obtain ⟨d1, d2⟩ := h35
  rw [hout] at d1
  have hz : (∃ q, ren need k A = some q ∧ q.1 ≤ 594 ∧ 0 ≤ q.1 ∧ σ35 g 8 = q.1 ∧ renZ need k A = q.1) ∨ (ren need k A = none ∧ σ35 g 8 = 595 ∧ renZ need k A = -6) := by
    unfold renZ
    cases hr : ren need k A with
    | none => exact Or.inr ⟨rfl, by rw [hr] at d1; exact d1.2.2.2.1, rfl⟩
    | some q =>
      have := ren_lt hW hr
      exact Or.inl ⟨q, rfl, by omega, by omega, by rw [hr] at d1; exact d1.2.2.2.1, rfl⟩
  refine r_aload_n (Y := YX4_fewestInches) dX4_fewestInches_38 rfl ?_
  refine r_getI (Y := YX4_fewestInches) (jz := 8) fl_X4_43 dX4_fewestInches_39 ?_
  refine r_sipush (Y := YX4_fewestInches) dX4_fewestInches_42 ?_
  refine r_icmp_ne (Y := YX4_fewestInches) (tgt := 53) dX4_fewestInches_45 (by decide) (fun c45 => ?_) (fun c45 => ?_) 
  · refine r_aload_n (Y := YX4_fewestInches) dX4_fewestInches_53 rfl ?_
    refine r_getI (Y := YX4_fewestInches) (jz := 8) fl_X4_43 dX4_fewestInches_54 ?_
    refine r_ireturn (Y := YX4_fewestInches) dX4_fewestInches_57 ?_
    refine ⟨?_, fun q hq i c hc => ?_, fun q i h9 => by rw [d2 q i (by omega)]; exact hfo q i h9⟩
    · rcases hz with ⟨q, z1, z2, z3, z4, z5⟩ | ⟨z1, z2, z3⟩ <;> omega
    · rw [hq] at d1
      exact d1.2.2.2.2 i c hc
  · refine r_bipush (Y := YX4_fewestInches) dX4_fewestInches_48 ?_
    refine r_goto (Y := YX4_fewestInches) (tgt := 57) dX4_fewestInches_50 (by decide) ?_
    refine r_ireturn (Y := YX4_fewestInches) dX4_fewestInches_57 ?_
    refine ⟨?_, fun q hq i c hc => ?_, fun q i h9 => by rw [d2 q i (by omega)]; exact hfo q i h9⟩
    · rcases hz with ⟨q, z1, z2, z3, z4, z5⟩ | ⟨z1, z2, z3⟩ <;> omega
    · rw [hq] at d1
      exact d1.2.2.2.2 i c hc
