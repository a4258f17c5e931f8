/-! the model whole: wigs -/
theorem cb_one {h : Int → Int} {we : List (Int × Int)} {n : Nat} (hf : fitL h n we = true) : cb h we (n + 1) = cb h we n ++ [(n : Int)] := if_pos hf
theorem cb_not {h : Int → Int} {we : List (Int × Int)} {n : Nat} (hf : ¬ fitL h n we = true) : cb h we (n + 1) = cb h we n := if_neg hf
theorem cb_get {h : Int → Int} {we : List (Int × Int)} {n i : Nat} {v : Int} (hv : (cb h we n)[i]? = some v) : ∀ k : Nat, (cb h we (n + k))[i]? = some v
  | 0 => hv
  | k + 1 => by
    have ih := cb_get hv k
    show (cb h we (n + k + 1))[i]? = some v
    by_cases hf : fitL h ((n + k : Nat) : Int) we = true
    · rw [cb_one hf, List.getElem?_append_left (List.getElem?_eq_some_iff.mp ih).1]
      exact ih
    · rw [cb_not hf]
      exact ih
theorem cb_last {h : Int → Int} {we : List (Int × Int)} {n : Nat} (hf : fitL h n we = true) (hn : n < 64) : (cb h we 64)[(cb h we n).length]? = some (n : Int) := by
  have h1 : (cb h we (n + 1))[(cb h we n).length]? = some (n : Int) := by
    rw [cb_one hf, List.getElem?_append_right (Nat.le_refl _), Nat.sub_self]
    rfl
  have h2 := cb_get h1 (63 - n)
  rwa [show n + 1 + (63 - n) = 64 by omega] at h2
theorem each_app : ∀ (F : List Int) (x v : Int), eachL x (F ++ [v]) = ban (eachL x F) v
  | [], _, _ => rfl
  | w :: r, x, v => each_app r (ban x w) v
theorem some_app : ∀ (F : List Int) (x v : Int), someL x (F ++ [v]) = bor (someL x F) v
  | [], _, _ => rfl
  | w :: r, x, v => some_app r (bor x w) v
def almS (h : Int → Int) (s : Int) : List Int → (Int → Int) × Int → (Int → Int) × Int
  | [], q => q
  | w :: r, q => almS h s r (fu q.1 (wt h (andn s w)) (q.1 (wt h (andn s w)) + 1), max q.2 (q.1 (wt h (andn s w)) + 1))
theorem alm_S {h : Int → Int} {s : Int} : ∀ (F : List Int) (c : Int → Int) (mo : Int), alm h s F c mo = (almS h s F (c, mo)).2
  | [], _, _ => rfl
  | w :: r, c, mo => alm_S r _ _
theorem almS_app {h : Int → Int} {s : Int} : ∀ (F : List Int) (q : (Int → Int) × Int) (w : Int), almS h s (F ++ [w]) q = (fu (almS h s F q).1 (wt h (andn s w)) ((almS h s F q).1 (wt h (andn s w)) + 1), max (almS h s F q).2 ((almS h s F q).1 (wt h (andn s w)) + 1))
  | [], _, _ => rfl
  | v :: r, q, w => almS_app r _ w
theorem almS_bd {h : Int → Int} {s : Int} : ∀ (F : List Int) (q : (Int → Int) × Int) (a : Int), (∀ k, 0 ≤ q.1 k ∧ q.1 k ≤ a) → 0 ≤ q.2 → q.2 ≤ a → (∀ k, 0 ≤ (almS h s F q).1 k ∧ (almS h s F q).1 k ≤ a + F.length) ∧ 0 ≤ (almS h s F q).2 ∧ (almS h s F q).2 ≤ a + F.length
  | [], q, a, h1, h2, h3 => ⟨fun k => by have h4 := h1 k; show 0 ≤ q.1 k ∧ q.1 k ≤ a + 0; omega, h2, by show q.2 ≤ a + 0; omega⟩
  | w :: r, q, a, h1, h2, h3 => by
    have hk := h1 (wt h (andn s w))
    have ih := almS_bd (h := h) (s := s) r (fu q.1 (wt h (andn s w)) (q.1 (wt h (andn s w)) + 1), max q.2 (q.1 (wt h (andn s w)) + 1)) (a + 1) (fun k => by
      have h4 := h1 k
      show 0 ≤ fu q.1 (wt h (andn s w)) (q.1 (wt h (andn s w)) + 1) k ∧ fu q.1 (wt h (andn s w)) (q.1 (wt h (andn s w)) + 1) k ≤ a + 1
      unfold fu
      split <;> omega) (by show 0 ≤ max q.2 (q.1 (wt h (andn s w)) + 1); omega) (by show max q.2 (q.1 (wt h (andn s w)) + 1) ≤ a + 1; omega)
    have e : ((w :: r).length : Int) = r.length + 1 := rfl
    refine ⟨fun k => ?_, ih.2.1, ?_⟩
    · have := ih.1 k
      show 0 ≤ (almS h s r _).1 k ∧ (almS h s r _).1 k ≤ _
      omega
    · have := ih.2.2
      show (almS h s r _).2 ≤ _
      omega
theorem almA_len {h : Int → Int} {s : Int} {F : List Int} : 0 ≤ almA h s F ∧ almA h s F ≤ F.length := by
  have h1 := almS_bd (h := h) (s := s) F (fun _ => 0, 0) 0 (fun k => by show (0 : Int) ≤ 0 ∧ (0 : Int) ≤ 0; omega) (Int.le_refl 0) (Int.le_refl 0)
  unfold almA
  rw [alm_S]
  omega
set_option maxRecDepth 20000 in
theorem c_X9_weightOf {σ : ab_S} {m : Int} (hm : kd_ m 9 37) {h : Int → Int} (hh : ∀ j : Int, 0 ≤ j → j < 6 → σ (m + 1) j = h j) (hb : ∀ j : Int, 0 ≤ j → j < 6 → 0 ≤ h j ∧ h j ≤ 40) {s w : Int} (hs1 : 0 ≤ s) (hs2 : s < 64) (hw1 : 0 ≤ w) (hw2 : w < 64)  : C2 YX9_weightOf 0 σ [rf m, iv s, iv w] (PI fun σ' z => σ' = σ ∧ z = wt h (andn s w)) := by
  obtain ⟨k1, k2, k3, k4, k5, k6, k7, k8, k9, k10, k11, k12, k13, k14, k15, k16, k17, k18, k19, k20, k21, k22, k23, k24, k25, k26⟩ := kd_model hm
  have han := andn_bd hs1 hs2 hw1 hw2
  refine C2.of (by decide +kernel) (Nat.le_of_ble_eq_true rfl) ?_
  refine r_iconst (Y := YX9_weightOf) dX9_weightOf_0 ?_
  refine r_istore_n (Y := YX9_weightOf) dX9_weightOf_1 ?_
  refine r_iconst (Y := YX9_weightOf) dX9_weightOf_2 ?_
  refine r_istore (Y := YX9_weightOf) dX9_weightOf_3 ?_
  suffices hloop : ∀ (k n : Nat), n + k = 6 → R2 YX9_weightOf 0 σ 5 [some (rf m), some (iv s), some (iv w), some (iv (wtN h (andn s w) n)), some (iv n)] [] (PI fun σ' z => σ' = σ ∧ z = wt h (andn s w)) from
    R2.weak (by repeat first | exact trivial | refine And.intro rfl ?_) (hloop 6 0 rfl)
  intro k
  induction k with
  | zero =>
    intro n e1
    have e2 : n = 6 := by omega
    subst e2
    refine r_iload (Y := YX9_weightOf) dX9_weightOf_5 rfl ?_
    refine r_bipush (Y := YX9_weightOf) dX9_weightOf_7 ?_
    refine r_icmp_ge (Y := YX9_weightOf) (tgt := 46) dX9_weightOf_9 (by decide) (fun c9 => ?_) (fun c9 => absurd c9 (by omega)) 
    refine r_iload_n (Y := YX9_weightOf) dX9_weightOf_46 rfl ?_
    refine r_ireturn (Y := YX9_weightOf) dX9_weightOf_47 ?_
    exact ⟨rfl, rfl⟩
  | succ k ih =>
    intro n e1
    have hb9 := bt_bd (s := andn s w) (m := n) han.1 han.2 (by omega) (by omega)
    have ih := ih (n + 1) (by omega)
    have hst : wtN h (andn s w) (n + 1) = wtN h (andn s w) n + if bt (andn s w) n = 1 then h n else 0 := rfl
    rw [hst] at ih
    refine r_iload (Y := YX9_weightOf) dX9_weightOf_5 rfl ?_
    refine r_bipush (Y := YX9_weightOf) dX9_weightOf_7 ?_
    refine r_icmp_ge (Y := YX9_weightOf) (tgt := 46) dX9_weightOf_9 (by decide) (fun c9 => absurd c9 (by omega)) (fun c9 => ?_) 
    refine r_iload_n (Y := YX9_weightOf) dX9_weightOf_12 rfl ?_
    refine r_iload_n (Y := YX9_weightOf) dX9_weightOf_13 rfl ?_
    refine r_iload_n (Y := YX9_weightOf) dX9_weightOf_14 rfl ?_
    refine r_iconst (Y := YX9_weightOf) dX9_weightOf_15 ?_
    refine r_ixor (Y := YX9_weightOf) dX9_weightOf_16 ?_
    refine r_iand (Y := YX9_weightOf) dX9_weightOf_17 ?_
    refine r_iload (Y := YX9_weightOf) dX9_weightOf_18 rfl ?_
    refine r_ishr (Y := YX9_weightOf) dX9_weightOf_20 ?_
    refine r_iconst (Y := YX9_weightOf) dX9_weightOf_21 ?_
    refine r_iand (Y := YX9_weightOf) dX9_weightOf_22 ?_
    refine r_iconst (Y := YX9_weightOf) dX9_weightOf_23 ?_
    change R2 _ _ _ _ _ (iv 1 :: iv (bt (andn s w) n) :: _) _
    refine r_icmp_ne (Y := YX9_weightOf) (tgt := 37) dX9_weightOf_24 (by decide) (fun c24 => ?_) (fun c24 => ?_) 
    · refine r_iconst (Y := YX9_weightOf) dX9_weightOf_37 ?_
      refine r_iadd (Y := YX9_weightOf) dX9_weightOf_38 ?_
      refine r_istore_n (Y := YX9_weightOf) dX9_weightOf_39 ?_
      refine r_iinc (Y := YX9_weightOf) dX9_weightOf_40 rfl ?_
      refine r_goto (Y := YX9_weightOf) (tgt := 5) dX9_weightOf_43 (by decide) ?_
      first
        | (rw [if_pos (by omega)] at ih; exact R2.weak (by repeat first | exact trivial | refine And.intro rfl ?_) ih)
        | (rw [if_neg (by omega)] at ih; exact R2.weak (by repeat first | exact trivial | refine And.intro rfl ?_) ih)
    · refine r_aload_n (Y := YX9_weightOf) dX9_weightOf_27 rfl ?_
      refine r_getR (Y := YX9_weightOf) (δz := 1) fl_X9_7 dX9_weightOf_28 rfl rfl ?_
      refine r_iload (Y := YX9_weightOf) dX9_weightOf_31 rfl ?_
      refine r_iaV (Y := YX9_weightOf) (v := h n) dX9_weightOf_33 (hh n (by omega) (by omega)) ?_
      refine r_goto (Y := YX9_weightOf) (tgt := 38) dX9_weightOf_34 (by decide) ?_
      refine r_iadd (Y := YX9_weightOf) dX9_weightOf_38 ?_
      refine r_istore_n (Y := YX9_weightOf) dX9_weightOf_39 ?_
      refine r_iinc (Y := YX9_weightOf) dX9_weightOf_40 rfl ?_
      refine r_goto (Y := YX9_weightOf) (tgt := 5) dX9_weightOf_43 (by decide) ?_
      first
        | (rw [if_pos (by omega)] at ih; exact R2.weak (by repeat first | exact trivial | refine And.intro rfl ?_) ih)
        | (rw [if_neg (by omega)] at ih; exact R2.weak (by repeat first | exact trivial | refine And.intro rfl ?_) ih)
set_option maxRecDepth 20000 in
theorem c_X9_fits {σ : ab_S} {m : Int} (hm : kd_ m 9 37) {h : Int → Int} (hh : ∀ j : Int, 0 ≤ j → j < 6 → σ (m + 1) j = h j) (hb : ∀ j : Int, 0 ≤ j → j < 6 → 0 ≤ h j ∧ h j ≤ 40) {we : List (Int × Int)} (hE : RLq σ m 11 12 15 we) (hL : we.length ≤ 6) (hO : OKW we) {w : Int} (hw1 : 0 ≤ w) (hw2 : w < 64) : C2 YX9_fits 1 σ [rf m, iv w] (PI fun σ' z => σ' = σ ∧ ((z = 1 ∧ fitL h w we = true) ∨ (z = 0 ∧ ¬ fitL h w we = true))) := by
  obtain ⟨k1, k2, k3, k4, k5, k6, k7, k8, k9, k10, k11, k12, k13, k14, k15, k16, k17, k18, k19, k20, k21, k22, k23, k24, k25, k26⟩ := kd_model hm
  refine C2.of (by decide +kernel) (Nat.le_of_ble_eq_true rfl) ?_
  refine r_iconst (Y := YX9_fits) dX9_fits_0 ?_
  refine r_istore_n (Y := YX9_fits) dX9_fits_1 ?_
  refine r_iconst (Y := YX9_fits) dX9_fits_2 ?_
  refine r_istore_n (Y := YX9_fits) dX9_fits_3 ?_
  suffices hloop : ∀ (rest : List (Int × Int)) (j : Nat) (f : Int), we.drop j = rest → j ≤ we.length → f = 0 ∨ f = 1 → (f = 1 ∧ fitL h w rest = true ↔ fitL h w we = true) → R2 YX9_fits 1 σ 4 [some (rf m), some (iv w), some (iv f), some (iv j)] [] (PI fun σ' z => σ' = σ ∧ ((z = 1 ∧ fitL h w we = true) ∨ (z = 0 ∧ ¬ fitL h w we = true))) from
    R2.weak (by repeat first | exact trivial | refine And.intro rfl ?_) (hloop we 0 1 rfl (by omega) (Or.inr rfl) ⟨fun h => h.2, fun h => ⟨rfl, h⟩⟩)
  intro rest
  induction rest with
  | nil =>
    intro j f e1 e2 e3 e4
    have e5 : we.length ≤ j := List.drop_eq_nil_iff.mp e1
    rcases e3 with e3 | e3
    · subst e3
      refine r_iload_n (Y := YX9_fits) dX9_fits_4 rfl ?_
      refine r_aload_n (Y := YX9_fits) dX9_fits_5 rfl ?_
      refine r_getV (Y := YX9_fits) (v := (we.length : Int)) (jz := 15) fl_X9_234 dX9_fits_6 (hE.1) ?_
      refine r_icmp_ge (Y := YX9_fits) (tgt := 48) dX9_fits_9 (by decide) (fun c9 => ?_) (fun c9 => absurd c9 (by omega)) 
      refine r_iload_n (Y := YX9_fits) dX9_fits_48 rfl ?_
      refine r_zreturn (Y := YX9_fits) dX9_fits_49 (by decide) ?_
      exact ⟨rfl, Or.inr ⟨rfl, fun h9 => absurd (e4.mpr h9).1 (by decide)⟩⟩
    · subst e3
      refine r_iload_n (Y := YX9_fits) dX9_fits_4 rfl ?_
      refine r_aload_n (Y := YX9_fits) dX9_fits_5 rfl ?_
      refine r_getV (Y := YX9_fits) (v := (we.length : Int)) (jz := 15) fl_X9_234 dX9_fits_6 (hE.1) ?_
      refine r_icmp_ge (Y := YX9_fits) (tgt := 48) dX9_fits_9 (by decide) (fun c9 => ?_) (fun c9 => absurd c9 (by omega)) 
      refine r_iload_n (Y := YX9_fits) dX9_fits_48 rfl ?_
      refine r_zreturn (Y := YX9_fits) dX9_fits_49 (by decide) ?_
      exact ⟨rfl, Or.inl ⟨rfl, e4.mp ⟨rfl, rfl⟩⟩⟩
  | cons q rest ih =>
    intro j f e1 e2 e3 e4
    have e5 : j < we.length := by
      apply Decidable.byContradiction
      intro h
      rw [List.drop_eq_nil_of_le (by omega)] at e1
      cases e1
    have e6 : we[j]? = some q := by
      have := congrArg List.head? e1
      rwa [List.head?_drop] at this
    have e7 : we.drop (j + 1) = rest := by
      have := congrArg List.tail e1
      rwa [List.tail_drop] at this
    have hv := hE.2 j q e6
    have hq := hO q (List.mem_of_getElem? e6)
    have hwb := wt_bd (s := andn q.1 w) hb
    have e8 : fitL h w (q :: rest) = (decide (wt h (andn q.1 w) = q.2) && fitL h w rest) := rfl
    rw [e8] at e4
    rcases e3 with e3 | e3
    · subst e3
      refine r_iload_n (Y := YX9_fits) dX9_fits_4 rfl ?_
      refine r_aload_n (Y := YX9_fits) dX9_fits_5 rfl ?_
      refine r_getV (Y := YX9_fits) (v := (we.length : Int)) (jz := 15) fl_X9_234 dX9_fits_6 (hE.1) ?_
      refine r_icmp_ge (Y := YX9_fits) (tgt := 48) dX9_fits_9 (by decide) (fun c9 => absurd c9 (by omega)) (fun c9 => ?_) 
      refine r_iload_n (Y := YX9_fits) dX9_fits_12 rfl ?_
      refine r_if_eq (Y := YX9_fits) (tgt := 40) dX9_fits_13 (by decide) (fun c13 => ?_) (fun c13 => absurd c13 (by omega)) 
      refine r_iconst (Y := YX9_fits) dX9_fits_40 ?_
      refine r_istore_n (Y := YX9_fits) dX9_fits_41 ?_
      refine r_iinc (Y := YX9_fits) dX9_fits_42 rfl ?_
      refine r_goto (Y := YX9_fits) (tgt := 4) dX9_fits_45 (by decide) ?_
      exact R2.weak (by repeat first | exact trivial | refine And.intro rfl ?_) (ih (j + 1) 0 e7 (by omega) (Or.inl rfl) ⟨fun h9 => absurd h9.1 (by decide), fun h9 => absurd (e4.mpr h9).1 (by decide)⟩)
    · subst e3
      refine r_iload_n (Y := YX9_fits) dX9_fits_4 rfl ?_
      refine r_aload_n (Y := YX9_fits) dX9_fits_5 rfl ?_
      refine r_getV (Y := YX9_fits) (v := (we.length : Int)) (jz := 15) fl_X9_234 dX9_fits_6 (hE.1) ?_
      refine r_icmp_ge (Y := YX9_fits) (tgt := 48) dX9_fits_9 (by decide) (fun c9 => absurd c9 (by omega)) (fun c9 => ?_) 
      refine r_iload_n (Y := YX9_fits) dX9_fits_12 rfl ?_
      refine r_if_eq (Y := YX9_fits) (tgt := 40) dX9_fits_13 (by decide) (fun c13 => absurd c13 (by omega)) (fun c13 => ?_) 
      refine r_aload_n (Y := YX9_fits) dX9_fits_16 rfl ?_
      refine r_aload_n (Y := YX9_fits) dX9_fits_17 rfl ?_
      refine r_getR (Y := YX9_fits) (δz := 11) fl_X9_40 dX9_fits_18 rfl rfl ?_
      refine r_iload_n (Y := YX9_fits) dX9_fits_21 rfl ?_
      refine r_iaV (Y := YX9_fits) (v := q.1) dX9_fits_22 (hv.1) ?_
      refine r_iload_n (Y := YX9_fits) dX9_fits_23 rfl ?_
      refine r_iV2I (Y := YX9_fits) mv_X9_237 dX9_fits_24 (c_X9_weightOf hm hh hb (by omega) (by omega) hw1 hw2) (by assumption) (fun σ24 z24 h24 => ?_)
      obtain ⟨e24, rfl⟩ := h24
      subst e24
      refine r_aload_n (Y := YX9_fits) dX9_fits_27 rfl ?_
      refine r_getR (Y := YX9_fits) (δz := 12) fl_X9_43 dX9_fits_28 rfl rfl ?_
      refine r_iload_n (Y := YX9_fits) dX9_fits_31 rfl ?_
      refine r_iaV (Y := YX9_fits) (v := q.2) dX9_fits_32 (hv.2) ?_
      refine r_icmp_ne (Y := YX9_fits) (tgt := 40) dX9_fits_33 (by decide) (fun c33 => ?_) (fun c33 => ?_) 
      · refine r_iconst (Y := YX9_fits) dX9_fits_40 ?_
        refine r_istore_n (Y := YX9_fits) dX9_fits_41 ?_
        refine r_iinc (Y := YX9_fits) dX9_fits_42 rfl ?_
        refine r_goto (Y := YX9_fits) (tgt := 4) dX9_fits_45 (by decide) ?_
        first
          | (rw [decide_eq_true (show wt h (andn q.1 w) = q.2 by omega), Bool.true_and] at e4
             exact R2.weak (by repeat first | exact trivial | refine And.intro rfl ?_) (ih (j + 1) 1 e7 (by omega) (Or.inr rfl) e4))
          | (rw [decide_eq_false (show ¬ wt h (andn q.1 w) = q.2 by omega), Bool.false_and] at e4
             exact R2.weak (by repeat first | exact trivial | refine And.intro rfl ?_) (ih (j + 1) 0 e7 (by omega) (Or.inl rfl) ⟨fun h9 => absurd h9.1 (by decide), fun h9 => absurd (e4.mpr h9).2 (by decide)⟩))
      · refine r_iconst (Y := YX9_fits) dX9_fits_36 ?_
        refine r_goto (Y := YX9_fits) (tgt := 41) dX9_fits_37 (by decide) ?_
        refine r_istore_n (Y := YX9_fits) dX9_fits_41 ?_
        refine r_iinc (Y := YX9_fits) dX9_fits_42 rfl ?_
        refine r_goto (Y := YX9_fits) (tgt := 4) dX9_fits_45 (by decide) ?_
        first
          | (rw [decide_eq_true (show wt h (andn q.1 w) = q.2 by omega), Bool.true_and] at e4
             exact R2.weak (by repeat first | exact trivial | refine And.intro rfl ?_) (ih (j + 1) 1 e7 (by omega) (Or.inr rfl) e4))
          | (rw [decide_eq_false (show ¬ wt h (andn q.1 w) = q.2 by omega), Bool.false_and] at e4
             exact R2.weak (by repeat first | exact trivial | refine And.intro rfl ?_) (ih (j + 1) 0 e7 (by omega) (Or.inl rfl) ⟨fun h9 => absurd h9.1 (by decide), fun h9 => absurd (e4.mpr h9).2 (by decide)⟩))
set_option maxRecDepth 20000 in
theorem c_X9_canBe {σ : ab_S} {m : Int} {G : GS} (hm : kd_ m 9 37) (hM : HM σ m G) (hG : OKG G) {i : Int} (hi1 : -2147483648 ≤ i) (hi2 : i ≤ 2147483647) : C2 YX9_canBe 2 σ [rf m, iv i] (PI fun σ' z => z = (canF G i).1 ∧ HM σ' m (canF G i).2 ∧ FY σ σ' m) := by
  obtain ⟨k1, k2, k3, k4, k5, k6, k7, k8, k9, k10, k11, k12, k13, k14, k15, k16, k17, k18, k19, k20, k21, k22, k23, k24, k25, k26⟩ := kd_model hm
  have hA := hM.1
  have hW := hG.1.1.1
  have hWL := hG.1.1.2
  have hb := hW.1
  have hE := hM.2.2.1
  have hL := hWL.2
  have hO := hG.1.2.2
  have hc64 := cb_len (aH G.1.1) G.1.2.2
  refine C2.of (by decide +kernel) (Nat.le_of_ble_eq_true rfl) ?_
  refine r_iconst (Y := YX9_canBe) dX9_canBe_0 ?_
  refine r_istore_n (Y := YX9_canBe) dX9_canBe_1 ?_
  refine r_iconst (Y := YX9_canBe) dX9_canBe_2 ?_
  refine r_istore_n (Y := YX9_canBe) dX9_canBe_3 ?_
  suffices hloop : ∀ (k n : Nat), n + k = 64 → ¬ (0 ≤ i ∧ i < (cb (aH G.1.1) G.1.2.2 n).length) → R2 YX9_canBe 2 σ 4 [some (rf m), some (iv i), some (iv (cb (aH G.1.1) G.1.2.2 n).length), some (iv n)] [] (PI fun σ' z => z = (canF G i).1 ∧ HM σ' m (canF G i).2 ∧ FY σ σ' m) from
    R2.weak (by repeat first | exact trivial | refine And.intro rfl ?_) (hloop 64 0 rfl (by show ¬ (0 ≤ i ∧ i < ((0 : Nat) : Int)); omega))
  intro k
  induction k with
  | zero =>
    intro n e1 e9
    have e2 : n = 64 := by omega
    subst e2
    change ¬ (0 ≤ i ∧ i < (cbG G).length) at e9
    have hcl1 := (hc64 64).1
    change R2 _ _ _ _ (_ :: _ :: some (iv ((cbG G).length : Int)) :: _) _ _
    refine r_iload_n (Y := YX9_canBe) dX9_canBe_4 rfl ?_
    refine r_bipush (Y := YX9_canBe) dX9_canBe_5 ?_
    refine r_icmp_ge (Y := YX9_canBe) (tgt := 34) dX9_canBe_7 (by decide) (fun c7 => ?_) (fun c7 => absurd c7 (by omega)) 
    refine r_iload_n (Y := YX9_canBe) dX9_canBe_34 rfl ?_
    refine r_iconst (Y := YX9_canBe) dX9_canBe_35 ?_
    refine r_icmp_ne (Y := YX9_canBe) (tgt := 43) dX9_canBe_36 (by decide) (fun c36 => ?_) (fun c36 => ?_) 
    · refine r_bipush (Y := YX9_canBe) dX9_canBe_43 ?_
      refine r_ireturn (Y := YX9_canBe) dX9_canBe_45 ?_
      unfold canF
      (repeat (first | rw [if_pos (by omega)] | rw [if_neg (by omega)]))
      exact ⟨rfl, hM, fun _ _ _ => rfl⟩
    · refine r_iload_n (Y := YX9_canBe) dX9_canBe_39 rfl ?_
      refine r_goto (Y := YX9_canBe) (tgt := 45) dX9_canBe_40 (by decide) ?_
      refine r_ireturn (Y := YX9_canBe) dX9_canBe_45 ?_
      unfold canF
      (repeat (first | rw [if_pos (by omega)] | rw [if_neg (by omega)]))
      exact ⟨rfl, hM, fun _ _ _ => rfl⟩
  | succ k ih =>
    intro n e1 e9
    have hcl1 := (hc64 n).1
    refine r_iload_n (Y := YX9_canBe) dX9_canBe_4 rfl ?_
    refine r_bipush (Y := YX9_canBe) dX9_canBe_5 ?_
    refine r_icmp_ge (Y := YX9_canBe) (tgt := 34) dX9_canBe_7 (by decide) (fun c7 => absurd c7 (by omega)) (fun c7 => ?_) 
    refine r_aload_n (Y := YX9_canBe) dX9_canBe_10 rfl ?_
    refine r_iload_n (Y := YX9_canBe) dX9_canBe_11 rfl ?_
    refine r_iV1I (Y := YX9_canBe) mv_X9_240 dX9_canBe_12 (c_X9_fits hm hA.1 hb hE hL hO (by omega) (by omega)) (by assumption) (fun σ12 z12 h12 => ?_)
    obtain ⟨e12, f12⟩ := h12
    subst e12
    refine r_if_eq (Y := YX9_canBe) (tgt := 28) dX9_canBe_15 (by decide) (fun c15 => ?_) (fun c15 => ?_) 
    · refine r_iinc (Y := YX9_canBe) dX9_canBe_28 rfl ?_
      refine r_goto (Y := YX9_canBe) (tgt := 4) dX9_canBe_31 (by decide) ?_
      first
        | (have hf : fitL (aH G.1.1) n G.1.2.2 = true := by rcases f12 with q | q; exact q.2; (exfalso; omega)
           have ih := ih (n + 1) (by omega)
           rw [cb_one hf, List.length_append, List.length_singleton] at ih
           exact R2.weak (by repeat first | exact trivial | refine And.intro rfl ?_) (ih (by omega)))
        | (have hf : ¬ fitL (aH G.1.1) n G.1.2.2 = true := by rcases f12 with q | q; (exfalso; omega); exact q.2
           have ih := ih (n + 1) (by omega)
           rw [cb_not hf] at ih
           exact R2.weak (by repeat first | exact trivial | refine And.intro rfl ?_) (ih e9))
    · refine r_iload_n (Y := YX9_canBe) dX9_canBe_18 rfl ?_
      refine r_iload_n (Y := YX9_canBe) dX9_canBe_19 rfl ?_
      refine r_icmp_ne (Y := YX9_canBe) (tgt := 25) dX9_canBe_20 (by decide) (fun c20 => ?_) (fun c20 => ?_) 
      · refine r_iinc (Y := YX9_canBe) dX9_canBe_25 rfl ?_
        refine r_iinc (Y := YX9_canBe) dX9_canBe_28 rfl ?_
        refine r_goto (Y := YX9_canBe) (tgt := 4) dX9_canBe_31 (by decide) ?_
        first
          | (have hf : fitL (aH G.1.1) n G.1.2.2 = true := by rcases f12 with q | q; exact q.2; (exfalso; omega)
             have ih := ih (n + 1) (by omega)
             rw [cb_one hf, List.length_append, List.length_singleton] at ih
             exact R2.weak (by repeat first | exact trivial | refine And.intro rfl ?_) (ih (by omega)))
          | (have hf : ¬ fitL (aH G.1.1) n G.1.2.2 = true := by rcases f12 with q | q; (exfalso; omega); exact q.2
             have ih := ih (n + 1) (by omega)
             rw [cb_not hf] at ih
             exact R2.weak (by repeat first | exact trivial | refine And.intro rfl ?_) (ih e9))
      · refine r_iload_n (Y := YX9_canBe) dX9_canBe_23 rfl ?_
        refine r_ireturn (Y := YX9_canBe) dX9_canBe_24 ?_
        have hf : fitL (aH G.1.1) n G.1.2.2 = true := by rcases f12 with q | q; exact q.2; (exfalso; omega)
        have hl := cb_last hf (by omega)
        have hl2 := (List.getElem?_eq_some_iff.mp hl).1
        have hi : i.toNat = (cb (aH G.1.1) G.1.2.2 n).length := by omega
        change _ < (cbG G).length at hl2
        unfold canF
        (repeat (first | rw [if_pos (by omega)] | rw [if_neg (by omega)]))
        refine ⟨?_, hM, fun _ _ _ => rfl⟩
        show (n : Int) = (cb (aH G.1.1) G.1.2.2 64).getD i.toNat 0
        rw [hi, List.getD_eq_getElem?_getD, hl]
        rfl
set_option maxRecDepth 20000 in
theorem c_X9_alikeBy {σ : ab_S} {m : Int} (hm : kd_ m 9 37) {h : Int → Int} (hh : ∀ j : Int, 0 ≤ j → j < 6 → σ (m + 1) j = h j) (hb : ∀ j : Int, 0 ≤ j → j < 6 → 0 ≤ h j ∧ h j ≤ 40) {we : List (Int × Int)} (hE : RLq σ m 11 12 15 we) (hL : we.length ≤ 6) (hO : OKW we) {s : Int} (hs1 : 0 ≤ s) (hs2 : s < 64) : C2 YX9_alikeBy 2 σ [rf m, iv s] (PI fun σ' z => z = almA h s (cb h we 64) ∧ ∀ k i : Int, k ≠ m + 24 → σ' k i = σ k i) := by
  obtain ⟨k1, k2, k3, k4, k5, k6, k7, k8, k9, k10, k11, k12, k13, k14, k15, k16, k17, k18, k19, k20, k21, k22, k23, k24, k25, k26⟩ := kd_model hm
  have hc64 := cb_len h we
  refine C2.of (by decide +kernel) (Nat.le_of_ble_eq_true rfl) ?_
  refine r_iconst (Y := YX9_alikeBy) dX9_alikeBy_0 ?_
  refine r_istore_n (Y := YX9_alikeBy) dX9_alikeBy_1 ?_
  suffices hloop : ∀ (k n : Nat) (τ : ab_S), n + k = 241 → (∀ i : Int, 0 ≤ i → i < n → τ (m + 24) i = 0) → (∀ k i : Int, k ≠ m + 24 → τ k i = σ k i) → R2 YX9_alikeBy 2 τ 2 [some (rf m), some (iv s), some (iv n), none, none] [] (PI fun σ' z => z = almA h s (cb h we 64) ∧ ∀ k i : Int, k ≠ m + 24 → σ' k i = σ k i) from
    R2.weak (by repeat first | exact trivial | refine And.intro rfl ?_) (hloop 241 0 σ rfl (fun i a b => by omega) (fun _ _ _ => rfl))
  intro k
  induction k with
  | zero =>
    intro n τ0 e1 hZ hF0
    have e2 : n = 241 := by omega
    subst e2
    refine r_iload_n (Y := YX9_alikeBy) dX9_alikeBy_2 rfl ?_
    refine r_sipush (Y := YX9_alikeBy) dX9_alikeBy_3 ?_
    refine r_icmp_ge (Y := YX9_alikeBy) (tgt := 22) dX9_alikeBy_6 (by decide) (fun c6 => ?_) (fun c6 => absurd c6 (by omega)) 
    refine r_iconst (Y := YX9_alikeBy) dX9_alikeBy_22 ?_
    refine r_istore_n (Y := YX9_alikeBy) dX9_alikeBy_23 ?_
    refine r_iconst (Y := YX9_alikeBy) dX9_alikeBy_24 ?_
    refine r_istore_n (Y := YX9_alikeBy) dX9_alikeBy_25 ?_
    suffices hlo2 : ∀ (k n : Nat) (τ : ab_S), n + k = 64 → (∀ i : Int, 0 ≤ i → i < 241 → τ (m + 24) i = (almS h s (cb h we n) (fun _ => 0, 0)).1 i) → (∀ k i : Int, k ≠ m + 24 → τ k i = σ k i) → R2 YX9_alikeBy 2 τ 26 [some (rf m), some (iv s), some (iv (almS h s (cb h we n) (fun _ => 0, 0)).2), some (iv n), none] [] (PI fun σ' z => z = almA h s (cb h we 64) ∧ ∀ k i : Int, k ≠ m + 24 → σ' k i = σ k i) from
      R2.weak (by repeat first | exact trivial | refine And.intro rfl ?_) (hlo2 64 0 τ0 rfl (fun i a b => hZ i a (by omega)) hF0)
    intro k
    induction k with
    | zero =>
      intro n τ e3 hC hF
      have e4 : n = 64 := by omega
      subst e4
      refine r_iload_n (Y := YX9_alikeBy) dX9_alikeBy_26 rfl ?_
      refine r_bipush (Y := YX9_alikeBy) dX9_alikeBy_27 ?_
      refine r_icmp_ge (Y := YX9_alikeBy) (tgt := 88) dX9_alikeBy_29 (by decide) (fun c29 => ?_) (fun c29 => absurd c29 (by omega)) 
      refine r_iload_n (Y := YX9_alikeBy) dX9_alikeBy_88 rfl ?_
      refine r_ireturn (Y := YX9_alikeBy) dX9_alikeBy_89 ?_
      refine ⟨?_, hF⟩
      unfold almA
      rw [alm_S]
    | succ k ih =>
      intro n τ e3 hC hF
      have hbd := almS_bd (h := h) (s := s) (cb h we n) (fun _ => 0, 0) 0 (fun k => by show (0 : Int) ≤ 0 ∧ (0 : Int) ≤ 0; omega) (Int.le_refl 0) (Int.le_refl 0)
      have hcl := (hc64 n).1
      have hbw := hbd.1 (wt h (andn s n))
      have hwb := wt_bd (s := andn s n) hb
      have hhτ : ∀ j : Int, 0 ≤ j → j < 6 → τ (m + 1) j = h j := fun j a b => by rw [hF _ _ (by omega)]; exact hh j a b
      have hEτ : RLq τ m 11 12 15 we := hE.kept (fun k i b => hF k i (by omega))
      have ih := ih (n + 1)
      refine r_iload_n (Y := YX9_alikeBy) dX9_alikeBy_26 rfl ?_
      refine r_bipush (Y := YX9_alikeBy) dX9_alikeBy_27 ?_
      refine r_icmp_ge (Y := YX9_alikeBy) (tgt := 88) dX9_alikeBy_29 (by decide) (fun c29 => absurd c29 (by omega)) (fun c29 => ?_) 
      refine r_aload_n (Y := YX9_alikeBy) dX9_alikeBy_32 rfl ?_
      refine r_iload_n (Y := YX9_alikeBy) dX9_alikeBy_33 rfl ?_
      refine r_iV1I (Y := YX9_alikeBy) mv_X9_240 dX9_alikeBy_34 (c_X9_fits hm hhτ hb hEτ hL hO (by omega) (by omega)) (by assumption) (fun σ34 z34 h34 => ?_)
      obtain ⟨e34, f34⟩ := h34
      subst e34
      refine r_if_eq (Y := YX9_alikeBy) (tgt := 82) dX9_alikeBy_37 (by decide) (fun c37 => ?_) (fun c37 => ?_) 
      · refine r_iinc (Y := YX9_alikeBy) dX9_alikeBy_82 rfl ?_
        refine r_goto (Y := YX9_alikeBy) (tgt := 26) dX9_alikeBy_85 (by decide) ?_
        first
          | (have hf : ¬ fitL h n we = true := by rcases f34 with q | q; (exfalso; omega); exact q.2
             rw [cb_not hf] at ih
             exact R2.weak (by repeat first | exact trivial | refine And.intro rfl ?_) (ih _ (by omega) hC hF))
          | (have hf : fitL h n we = true := by rcases f34 with q | q; exact q.2; (exfalso; omega)
             rw [cb_one hf, almS_app] at ih
             dsimp only at ih
             first
               | (rw [show max (almS h s (cb h we n) (fun _ => 0, 0)).2 ((almS h s (cb h we n) (fun _ => 0, 0)).1 (wt h (andn s n)) + 1) = (almS h s (cb h we n) (fun _ => 0, 0)).1 (wt h (andn s n)) + 1 by omega] at ih
                  refine R2.weak (by repeat first | exact trivial | refine And.intro rfl ?_) (ih _ (by omega) (fun i a b => ?_) (fun k i a => by rw [← hF k i a]; exact (by (try delta up); (try delta cpy); (try dsimp only); repeat (first | rw [if_pos (by omega)] | rw [if_neg (by omega)]); try (first | rfl | assumption | omega))))
                  by_cases e : i = wt h (andn s n)
                  · rw [e, fu_same]; exact up_same _ _ _ _
                  · rw [fu_ne e, ← hC i a b]; exact (by (try delta up); (try delta cpy); (try dsimp only); repeat (first | rw [if_pos (by omega)] | rw [if_neg (by omega)]); try (first | rfl | assumption | omega)))
               | (rw [show max (almS h s (cb h we n) (fun _ => 0, 0)).2 ((almS h s (cb h we n) (fun _ => 0, 0)).1 (wt h (andn s n)) + 1) = (almS h s (cb h we n) (fun _ => 0, 0)).2 by omega] at ih
                  refine R2.weak (by repeat first | exact trivial | refine And.intro rfl ?_) (ih _ (by omega) (fun i a b => ?_) (fun k i a => by rw [← hF k i a]; exact (by (try delta up); (try delta cpy); (try dsimp only); repeat (first | rw [if_pos (by omega)] | rw [if_neg (by omega)]); try (first | rfl | assumption | omega))))
                  by_cases e : i = wt h (andn s n)
                  · rw [e, fu_same]; exact up_same _ _ _ _
                  · rw [fu_ne e, ← hC i a b]; exact (by (try delta up); (try delta cpy); (try dsimp only); repeat (first | rw [if_pos (by omega)] | rw [if_neg (by omega)]); try (first | rfl | assumption | omega))))
      · refine r_aload_n (Y := YX9_alikeBy) dX9_alikeBy_40 rfl ?_
        refine r_iload_n (Y := YX9_alikeBy) dX9_alikeBy_41 rfl ?_
        refine r_iload_n (Y := YX9_alikeBy) dX9_alikeBy_42 rfl ?_
        refine r_iV2I (Y := YX9_alikeBy) mv_X9_237 dX9_alikeBy_43 (c_X9_weightOf hm hhτ hb hs1 hs2 (by omega) (by omega)) (by assumption) (fun σ43 z43 h43 => ?_)
        obtain ⟨e43, rfl⟩ := h43
        subst e43
        refine r_istore (Y := YX9_alikeBy) dX9_alikeBy_46 ?_
        refine r_aload_n (Y := YX9_alikeBy) dX9_alikeBy_48 rfl ?_
        refine r_getR (Y := YX9_alikeBy) (δz := 24) fl_X9_79 dX9_alikeBy_49 rfl rfl ?_
        refine r_iload (Y := YX9_alikeBy) dX9_alikeBy_52 rfl ?_
        refine r_dup2 (Y := YX9_alikeBy) dX9_alikeBy_54 ?_
        refine r_iaV (Y := YX9_alikeBy) (v := (almS h s (cb h we n) (fun _ => 0, 0)).1 (wt h (andn s n))) dX9_alikeBy_55 (hC _ hwb.1 (by omega)) ?_
        refine r_iconst (Y := YX9_alikeBy) dX9_alikeBy_56 ?_
        refine r_iadd (Y := YX9_alikeBy) dX9_alikeBy_57 ?_
        refine r_iastore (Y := YX9_alikeBy) dX9_alikeBy_58 ?_
        refine r_aload_n (Y := YX9_alikeBy) dX9_alikeBy_59 rfl ?_
        refine r_getR (Y := YX9_alikeBy) (δz := 24) fl_X9_79 dX9_alikeBy_60 rfl rfl ?_
        refine r_iload (Y := YX9_alikeBy) dX9_alikeBy_63 rfl ?_
        refine r_iaV (Y := YX9_alikeBy) (v := (almS h s (cb h we n) (fun _ => 0, 0)).1 (wt h (andn s n)) + 1) dX9_alikeBy_65 (up_same _ _ _ _) ?_
        refine r_iload_n (Y := YX9_alikeBy) dX9_alikeBy_66 rfl ?_
        refine r_icmp_le (Y := YX9_alikeBy) (tgt := 80) dX9_alikeBy_67 (by decide) (fun c67 => ?_) (fun c67 => ?_) 
        · refine r_iload_n (Y := YX9_alikeBy) dX9_alikeBy_80 rfl ?_
          refine r_istore_n (Y := YX9_alikeBy) dX9_alikeBy_81 ?_
          refine r_iinc (Y := YX9_alikeBy) dX9_alikeBy_82 rfl ?_
          refine r_goto (Y := YX9_alikeBy) (tgt := 26) dX9_alikeBy_85 (by decide) ?_
          first
            | (have hf : ¬ fitL h n we = true := by rcases f34 with q | q; (exfalso; omega); exact q.2
               rw [cb_not hf] at ih
               exact R2.weak (by repeat first | exact trivial | refine And.intro rfl ?_) (ih _ (by omega) hC hF))
            | (have hf : fitL h n we = true := by rcases f34 with q | q; exact q.2; (exfalso; omega)
               rw [cb_one hf, almS_app] at ih
               dsimp only at ih
               first
                 | (rw [show max (almS h s (cb h we n) (fun _ => 0, 0)).2 ((almS h s (cb h we n) (fun _ => 0, 0)).1 (wt h (andn s n)) + 1) = (almS h s (cb h we n) (fun _ => 0, 0)).1 (wt h (andn s n)) + 1 by omega] at ih
                    refine R2.weak (by repeat first | exact trivial | refine And.intro rfl ?_) (ih _ (by omega) (fun i a b => ?_) (fun k i a => by rw [← hF k i a]; exact (by (try delta up); (try delta cpy); (try dsimp only); repeat (first | rw [if_pos (by omega)] | rw [if_neg (by omega)]); try (first | rfl | assumption | omega))))
                    by_cases e : i = wt h (andn s n)
                    · rw [e, fu_same]; exact up_same _ _ _ _
                    · rw [fu_ne e, ← hC i a b]; exact (by (try delta up); (try delta cpy); (try dsimp only); repeat (first | rw [if_pos (by omega)] | rw [if_neg (by omega)]); try (first | rfl | assumption | omega)))
                 | (rw [show max (almS h s (cb h we n) (fun _ => 0, 0)).2 ((almS h s (cb h we n) (fun _ => 0, 0)).1 (wt h (andn s n)) + 1) = (almS h s (cb h we n) (fun _ => 0, 0)).2 by omega] at ih
                    refine R2.weak (by repeat first | exact trivial | refine And.intro rfl ?_) (ih _ (by omega) (fun i a b => ?_) (fun k i a => by rw [← hF k i a]; exact (by (try delta up); (try delta cpy); (try dsimp only); repeat (first | rw [if_pos (by omega)] | rw [if_neg (by omega)]); try (first | rfl | assumption | omega))))
                    by_cases e : i = wt h (andn s n)
                    · rw [e, fu_same]; exact up_same _ _ _ _
                    · rw [fu_ne e, ← hC i a b]; exact (by (try delta up); (try delta cpy); (try dsimp only); repeat (first | rw [if_pos (by omega)] | rw [if_neg (by omega)]); try (first | rfl | assumption | omega))))
        · refine r_aload_n (Y := YX9_alikeBy) dX9_alikeBy_70 rfl ?_
          refine r_getR (Y := YX9_alikeBy) (δz := 24) fl_X9_79 dX9_alikeBy_71 rfl rfl ?_
          refine r_iload (Y := YX9_alikeBy) dX9_alikeBy_74 rfl ?_
          refine r_iaV (Y := YX9_alikeBy) (v := (almS h s (cb h we n) (fun _ => 0, 0)).1 (wt h (andn s n)) + 1) dX9_alikeBy_76 (up_same _ _ _ _) ?_
          refine r_goto (Y := YX9_alikeBy) (tgt := 81) dX9_alikeBy_77 (by decide) ?_
          refine r_istore_n (Y := YX9_alikeBy) dX9_alikeBy_81 ?_
          refine r_iinc (Y := YX9_alikeBy) dX9_alikeBy_82 rfl ?_
          refine r_goto (Y := YX9_alikeBy) (tgt := 26) dX9_alikeBy_85 (by decide) ?_
          first
            | (have hf : ¬ fitL h n we = true := by rcases f34 with q | q; (exfalso; omega); exact q.2
               rw [cb_not hf] at ih
               exact R2.weak (by repeat first | exact trivial | refine And.intro rfl ?_) (ih _ (by omega) hC hF))
            | (have hf : fitL h n we = true := by rcases f34 with q | q; exact q.2; (exfalso; omega)
               rw [cb_one hf, almS_app] at ih
               dsimp only at ih
               first
                 | (rw [show max (almS h s (cb h we n) (fun _ => 0, 0)).2 ((almS h s (cb h we n) (fun _ => 0, 0)).1 (wt h (andn s n)) + 1) = (almS h s (cb h we n) (fun _ => 0, 0)).1 (wt h (andn s n)) + 1 by omega] at ih
                    refine R2.weak (by repeat first | exact trivial | refine And.intro rfl ?_) (ih _ (by omega) (fun i a b => ?_) (fun k i a => by rw [← hF k i a]; exact (by (try delta up); (try delta cpy); (try dsimp only); repeat (first | rw [if_pos (by omega)] | rw [if_neg (by omega)]); try (first | rfl | assumption | omega))))
                    by_cases e : i = wt h (andn s n)
                    · rw [e, fu_same]; exact up_same _ _ _ _
                    · rw [fu_ne e, ← hC i a b]; exact (by (try delta up); (try delta cpy); (try dsimp only); repeat (first | rw [if_pos (by omega)] | rw [if_neg (by omega)]); try (first | rfl | assumption | omega)))
                 | (rw [show max (almS h s (cb h we n) (fun _ => 0, 0)).2 ((almS h s (cb h we n) (fun _ => 0, 0)).1 (wt h (andn s n)) + 1) = (almS h s (cb h we n) (fun _ => 0, 0)).2 by omega] at ih
                    refine R2.weak (by repeat first | exact trivial | refine And.intro rfl ?_) (ih _ (by omega) (fun i a b => ?_) (fun k i a => by rw [← hF k i a]; exact (by (try delta up); (try delta cpy); (try dsimp only); repeat (first | rw [if_pos (by omega)] | rw [if_neg (by omega)]); try (first | rfl | assumption | omega))))
                    by_cases e : i = wt h (andn s n)
                    · rw [e, fu_same]; exact up_same _ _ _ _
                    · rw [fu_ne e, ← hC i a b]; exact (by (try delta up); (try delta cpy); (try dsimp only); repeat (first | rw [if_pos (by omega)] | rw [if_neg (by omega)]); try (first | rfl | assumption | omega))))
  | succ k ih =>
    intro n τ0 e1 hZ hF0
    refine r_iload_n (Y := YX9_alikeBy) dX9_alikeBy_2 rfl ?_
    refine r_sipush (Y := YX9_alikeBy) dX9_alikeBy_3 ?_
    refine r_icmp_ge (Y := YX9_alikeBy) (tgt := 22) dX9_alikeBy_6 (by decide) (fun c6 => absurd c6 (by omega)) (fun c6 => ?_) 
    refine r_aload_n (Y := YX9_alikeBy) dX9_alikeBy_9 rfl ?_
    refine r_getR (Y := YX9_alikeBy) (δz := 24) fl_X9_79 dX9_alikeBy_10 rfl rfl ?_
    refine r_iload_n (Y := YX9_alikeBy) dX9_alikeBy_13 rfl ?_
    refine r_iconst (Y := YX9_alikeBy) dX9_alikeBy_14 ?_
    refine r_iastore (Y := YX9_alikeBy) dX9_alikeBy_15 ?_
    refine r_iinc (Y := YX9_alikeBy) dX9_alikeBy_16 rfl ?_
    refine r_goto (Y := YX9_alikeBy) (tgt := 2) dX9_alikeBy_19 (by decide) ?_
    refine R2.weak (by repeat first | exact trivial | refine And.intro rfl ?_) (ih (n + 1) _ (by omega) (fun i a b => ?_) (fun k i a => by rw [← hF0 k i a]; exact (by (try delta up); (try delta cpy); (try dsimp only); repeat (first | rw [if_pos (by omega)] | rw [if_neg (by omega)]); try (first | rfl | assumption | omega))))
    by_cases e : i = n
    · rw [e]; exact up_same _ _ _ _
    · rw [← hZ i a (by omega)]; exact (by (try delta up); (try delta cpy); (try dsimp only); repeat (first | rw [if_pos (by omega)] | rw [if_neg (by omega)]); try (first | rfl | assumption | omega))
def askq (h : Int → Int) (F : List Int) (n : Nat) : Int × Int := if n = 0 then (-6, 0) else askN h F n
theorem askN_1 {h : Int → Int} {F : List Int} (hL : F.length ≤ 64) : ∀ n : Nat, (1 ≤ (askN h F n).1 ∧ (askN h F n).1 ≤ n + 1)
  | 0 => by show (1 : Int) ≤ 1 ∧ (1 : Int) ≤ 0 + 1; omega
  | n + 1 => by
    have ih := askN_1 (h := h) hL n
    show 1 ≤ (if almA h ((n + 1 : Nat) : Int) F < (askN h F n).2 then (((n + 1 : Nat) : Int), almA h ((n + 1 : Nat) : Int) F) else askN h F n).1 ∧ (if almA h ((n + 1 : Nat) : Int) F < (askN h F n).2 then (((n + 1 : Nat) : Int), almA h ((n + 1 : Nat) : Int) F) else askN h F n).1 ≤ _
    split
    · dsimp only; omega
    · omega
theorem askq_0 (h : Int → Int) (F : List Int) : askq h F 0 = (-6, 0) := rfl
theorem askq_s (h : Int → Int) (F : List Int) (n : Nat) : askq h F (n + 1) = askN h F (n + 1) := if_neg (by omega)
theorem askq_step {h : Int → Int} {F : List Int} (hL : F.length ≤ 64) (n : Nat) : askq h F (n + 1) = if (askq h F n).1 < 0 ∨ almA h ((n + 1 : Nat) : Int) F < (askq h F n).2 then (((n + 1 : Nat) : Int), almA h ((n + 1 : Nat) : Int) F) else askq h F n := by
  rw [askq_s]
  show (if almA h ((n + 1 : Nat) : Int) F < (askN h F n).2 then (((n + 1 : Nat) : Int), almA h ((n + 1 : Nat) : Int) F) else askN h F n) = _
  cases n with
  | zero =>
    have := almA_len (h := h) (s := ((0 + 1 : Nat) : Int)) (F := F)
    rw [if_pos (by show almA h ((0 + 1 : Nat) : Int) F < 65; omega), if_pos (Or.inl (by show (-6 : Int) < 0; omega))]
  | succ n =>
    have h1 := askN_1 (h := h) hL (n + 1)
    rw [askq_s]
    by_cases e : almA h ((n + 1 + 1 : Nat) : Int) F < (askN h F (n + 1)).2
    · rw [if_pos e, if_pos (Or.inr e)]
    · rw [if_neg e, if_neg (by omega)]
set_option maxRecDepth 20000 in
theorem c_X9_ask {σ : ab_S} {m : Int} (hm : kd_ m 9 37) {h : Int → Int} (hh : ∀ j : Int, 0 ≤ j → j < 6 → σ (m + 1) j = h j) (hb : ∀ j : Int, 0 ≤ j → j < 6 → 0 ≤ h j ∧ h j ≤ 40) {we : List (Int × Int)} (hE : RLq σ m 11 12 15 we) (hL : we.length ≤ 6) (hO : OKW we)  : C2 YX9_ask 3 σ [rf m] (PI fun σ' z => z = (askN h (cb h we 64) 63).1 ∧ ∀ k i : Int, k ≠ m + 24 → σ' k i = σ k i) := by
  obtain ⟨k1, k2, k3, k4, k5, k6, k7, k8, k9, k10, k11, k12, k13, k14, k15, k16, k17, k18, k19, k20, k21, k22, k23, k24, k25, k26⟩ := kd_model hm
  have hcl := (cb_len h we 64).1
  refine C2.of (by decide +kernel) (Nat.le_of_ble_eq_true rfl) ?_
  refine r_bipush (Y := YX9_ask) dX9_ask_0 ?_
  refine r_istore_n (Y := YX9_ask) dX9_ask_2 ?_
  refine r_iconst (Y := YX9_ask) dX9_ask_3 ?_
  refine r_istore_n (Y := YX9_ask) dX9_ask_4 ?_
  refine r_iconst (Y := YX9_ask) dX9_ask_5 ?_
  refine r_istore_n (Y := YX9_ask) dX9_ask_6 ?_
  suffices hloop : ∀ (k n : Nat) (τ : ab_S), n + k = 63 → (∀ k i : Int, k ≠ m + 24 → τ k i = σ k i) → R2 YX9_ask 3 τ 7 [some (rf m), some (iv (askq h (cb h we 64) n).1), some (iv (askq h (cb h we 64) n).2), some (iv ((n : Int) + 1)), none] [] (PI fun σ' z => z = (askN h (cb h we 64) 63).1 ∧ ∀ k i : Int, k ≠ m + 24 → σ' k i = σ k i) from
    R2.weak (by repeat first | exact trivial | refine And.intro rfl ?_) (hloop 63 0 σ rfl (fun _ _ _ => rfl))
  intro k
  induction k with
  | zero =>
    intro n τ e1 hF
    have e2 : n = 63 := by omega
    subst e2
    refine r_iload_n (Y := YX9_ask) dX9_ask_7 rfl ?_
    refine r_bipush (Y := YX9_ask) dX9_ask_8 ?_
    refine r_icmp_ge (Y := YX9_ask) (tgt := 41) dX9_ask_10 (by decide) (fun c10 => ?_) (fun c10 => absurd c10 (by omega)) 
    refine r_iload_n (Y := YX9_ask) dX9_ask_41 rfl ?_
    refine r_ireturn (Y := YX9_ask) dX9_ask_42 ?_
    exact ⟨by rw [askq_s h _ 62], hF⟩
  | succ k ih =>
    intro n τ e1 hF
    have hhτ : ∀ j : Int, 0 ≤ j → j < 6 → τ (m + 1) j = h j := fun j a b => by rw [hF _ _ (by omega)]; exact hh j a b
    have hEτ : RLq τ m 11 12 15 we := hE.kept (fun k i b => hF k i (by omega))
    have hal := almA_len (h := h) (s := ((n + 1 : Nat) : Int)) (F := cb h we 64)
    rw [show ((n + 1 : Nat) : Int) = (n : Int) + 1 by omega] at hal
    have hqb : -6 ≤ (askq h (cb h we 64) n).1 ∧ (askq h (cb h we 64) n).1 ≤ 64 ∧ 0 ≤ (askq h (cb h we 64) n).2 ∧ (askq h (cb h we 64) n).2 ≤ 1000 := by
      cases n with
      | zero => rw [askq_0]; dsimp only; omega
      | succ n =>
        rw [askq_s]
        have h1 := askN_1 (h := h) hcl (n + 1)
        have h2 := askN_bd (h := h) hcl (n + 1)
        omega
    have ih := ih (n + 1)
    rw [askq_step hcl, show ((n + 1 : Nat) : Int) = (n : Int) + 1 by omega] at ih
    refine r_iload_n (Y := YX9_ask) dX9_ask_7 rfl ?_
    refine r_bipush (Y := YX9_ask) dX9_ask_8 ?_
    refine r_icmp_ge (Y := YX9_ask) (tgt := 41) dX9_ask_10 (by decide) (fun c10 => absurd c10 (by omega)) (fun c10 => ?_) 
    refine r_aload_n (Y := YX9_ask) dX9_ask_13 rfl ?_
    refine r_iload_n (Y := YX9_ask) dX9_ask_14 rfl ?_
    refine r_iV1I (Y := YX9_ask) mv_X9_243 dX9_ask_15 (c_X9_alikeBy hm hhτ hb hEτ hL hO (by omega) (by omega)) (by assumption) (fun σ15 z15 h15 => ?_)
    obtain ⟨rfl, f15⟩ := h15
    refine r_istore (Y := YX9_ask) dX9_ask_18 ?_
    refine r_iload_n (Y := YX9_ask) dX9_ask_20 rfl ?_
    refine r_if_lt (Y := YX9_ask) (tgt := 30) dX9_ask_21 (by decide) (fun c21 => ?_) (fun c21 => ?_) 
    · refine r_iload_n (Y := YX9_ask) dX9_ask_30 rfl ?_
      refine r_istore_n (Y := YX9_ask) dX9_ask_31 ?_
      refine r_iload (Y := YX9_ask) dX9_ask_32 rfl ?_
      refine r_istore_n (Y := YX9_ask) dX9_ask_34 ?_
      refine r_iinc (Y := YX9_ask) dX9_ask_35 rfl ?_
      refine r_goto (Y := YX9_ask) (tgt := 7) dX9_ask_38 (by decide) ?_
      have hF2 : ∀ k i : Int, k ≠ m + 24 → σ15 k i = σ k i := fun k i a => by rw [f15 k i a]; exact hF k i a
      first
        | (rw [if_pos (by omega)] at ih; exact R2.weak (by repeat first | exact trivial | refine And.intro rfl ?_) (ih _ (by omega) hF2))
        | (rw [if_neg (by omega)] at ih; exact R2.weak (by repeat first | exact trivial | refine And.intro rfl ?_) (ih _ (by omega) hF2))
    · refine r_iload (Y := YX9_ask) dX9_ask_24 rfl ?_
      refine r_iload_n (Y := YX9_ask) dX9_ask_26 rfl ?_
      refine r_icmp_ge (Y := YX9_ask) (tgt := 35) dX9_ask_27 (by decide) (fun c27 => ?_) (fun c27 => ?_) 
      · refine r_iinc (Y := YX9_ask) dX9_ask_35 rfl ?_
        refine r_goto (Y := YX9_ask) (tgt := 7) dX9_ask_38 (by decide) ?_
        have hF2 : ∀ k i : Int, k ≠ m + 24 → σ15 k i = σ k i := fun k i a => by rw [f15 k i a]; exact hF k i a
        first
          | (rw [if_pos (by omega)] at ih; exact R2.weak (by repeat first | exact trivial | refine And.intro rfl ?_) (ih _ (by omega) hF2))
          | (rw [if_neg (by omega)] at ih; exact R2.weak (by repeat first | exact trivial | refine And.intro rfl ?_) (ih _ (by omega) hF2))
      · refine r_iload_n (Y := YX9_ask) dX9_ask_30 rfl ?_
        refine r_istore_n (Y := YX9_ask) dX9_ask_31 ?_
        refine r_iload (Y := YX9_ask) dX9_ask_32 rfl ?_
        refine r_istore_n (Y := YX9_ask) dX9_ask_34 ?_
        refine r_iinc (Y := YX9_ask) dX9_ask_35 rfl ?_
        refine r_goto (Y := YX9_ask) (tgt := 7) dX9_ask_38 (by decide) ?_
        have hF2 : ∀ k i : Int, k ≠ m + 24 → σ15 k i = σ k i := fun k i a => by rw [f15 k i a]; exact hF k i a
        first
          | (rw [if_pos (by omega)] at ih; exact R2.weak (by repeat first | exact trivial | refine And.intro rfl ?_) (ih _ (by omega) hF2))
          | (rw [if_neg (by omega)] at ih; exact R2.weak (by repeat first | exact trivial | refine And.intro rfl ?_) (ih _ (by omega) hF2))
set_option maxRecDepth 20000 in
theorem c_X9_sure {σ : ab_S} {m : Int} {G : GS} (hm : kd_ m 9 37) (hM : HM σ m G) (hG : OKG G) {w : Int} (hw1 : -2147483648 ≤ w) (hw2 : w ≤ 2147483647) : C2 YX9_sure 4 σ [rf m, iv w] (PI fun σ' z => z = (sureF G w).1 ∧ HM σ' m (sureF G w).2 ∧ FY σ σ' m) := by
  obtain ⟨k1, k2, k3, k4, k5, k6, k7, k8, k9, k10, k11, k12, k13, k14, k15, k16, k17, k18, k19, k20, k21, k22, k23, k24, k25, k26⟩ := kd_model hm
  have hA := hM.1
  have hW := hG.1.1.1
  have hWL := hG.1.1.2
  have hb := hW.1
  have hE := hM.2.2.1
  have hL := hWL.2
  have hO := hG.1.2.2
  have hc64 := cb_len (aH G.1.1) G.1.2.2
  refine C2.of (by decide +kernel) (Nat.le_of_ble_eq_true rfl) ?_
  refine r_iload_n (Y := YX9_sure) dX9_sure_0 rfl ?_
  refine r_i2l (Y := YX9_sure) dX9_sure_1 ?_
  refine r_lconst (Y := YX9_sure) (v := 0) dX9_sure_2 rfl ?_
  refine r_ldc2 (Y := YX9_sure) (z := 2) wc_X9_246 dX9_sure_3 (by decide) ?_
  refine r_iS3I (Y := YX9_sure) ms_X9_95 dX9_sure_6 (c_in (by omega) (by omega) (by omega) (by omega) (by omega) (by omega)) (fun σ6 z6 h6 => ?_)
  obtain ⟨rfl, h6⟩ := h6
  refine r_if_ne (Y := YX9_sure) (tgt := 15) dX9_sure_9 (by decide) (fun c9 => ?_) (fun c9 => ?_) 
  · refine r_iconst (Y := YX9_sure) dX9_sure_15 ?_
    refine r_istore_n (Y := YX9_sure) dX9_sure_16 ?_
    refine r_bipush (Y := YX9_sure) dX9_sure_17 ?_
    refine r_istore_n (Y := YX9_sure) dX9_sure_19 ?_
    refine r_iconst (Y := YX9_sure) dX9_sure_20 ?_
    refine r_istore (Y := YX9_sure) dX9_sure_21 ?_
    refine r_iconst (Y := YX9_sure) dX9_sure_23 ?_
    refine r_istore (Y := YX9_sure) dX9_sure_24 ?_
    suffices hloop : ∀ (k n : Nat), n + k = 64 → R2 YX9_sure 4 σ6 26 [some (rf m), some (iv w), some (iv (cb (aH G.1.1) G.1.2.2 n).length), some (iv (eachL 63 (cb (aH G.1.1) G.1.2.2 n))), some (iv (someL 0 (cb (aH G.1.1) G.1.2.2 n))), some (iv n)] [] (PI fun σ' z => z = (sureF G w).1 ∧ HM σ' m (sureF G w).2 ∧ FY σ6 σ' m) from
      R2.weak (by repeat first | exact trivial | refine And.intro rfl ?_) (hloop 64 0 rfl)
    intro k
    induction k with
    | zero =>
      intro n e1
      have e2 : n = 64 := by omega
      subst e2
      have hcl1 := (hc64 64).1
      change R2 _ _ _ _ (_ :: _ :: some (iv ((cbG G).length : Int)) :: some (iv (eachL 63 (cbG G))) :: some (iv (someL 0 (cbG G))) :: _) _ _
      change (cbG G).length ≤ 64 at hcl1
      refine r_iload (Y := YX9_sure) dX9_sure_26 rfl ?_
      refine r_bipush (Y := YX9_sure) dX9_sure_28 ?_
      refine r_icmp_ge (Y := YX9_sure) (tgt := 63) dX9_sure_30 (by decide) (fun c30 => ?_) (fun c30 => absurd c30 (by omega)) 
      refine r_iload_n (Y := YX9_sure) dX9_sure_63 rfl ?_
      refine r_if_ne (Y := YX9_sure) (tgt := 72) dX9_sure_64 (by decide) (fun c64 => ?_) (fun c64 => ?_) 
      · refine r_iload_n (Y := YX9_sure) dX9_sure_72 rfl ?_
        refine r_if_ne (Y := YX9_sure) (tgt := 80) dX9_sure_73 (by decide) (fun c73 => ?_) (fun c73 => ?_) 
        · refine r_iload_n (Y := YX9_sure) dX9_sure_80 rfl ?_
          refine r_iconst (Y := YX9_sure) dX9_sure_81 ?_
          refine r_icmp_ne (Y := YX9_sure) (tgt := 95) dX9_sure_82 (by decide) (fun c82 => ?_) (fun c82 => ?_) 
          · refine r_aload_n (Y := YX9_sure) dX9_sure_95 rfl ?_
            refine r_iV0I (Y := YX9_sure) mv_X9_248 dX9_sure_96 (c_X9_ask hm hA.1 hb hE hL hO) (by assumption) (fun σ96 z96 h96 => ?_)
            obtain ⟨rfl, f96⟩ := h96
            refine r_ireturn (Y := YX9_sure) dX9_sure_99 ?_
            unfold sureF
            (repeat (first | rw [if_pos (by omega)] | rw [if_neg (by omega)]))
            first
              | exact ⟨rfl, hM, fun _ _ _ => rfl⟩
              | exact ⟨rfl, hM.kept (fun k i b => f96 k i (by omega)), fun k i b => f96 k i (by omega)⟩
          · refine r_bipush (Y := YX9_sure) dX9_sure_85 ?_
            refine r_iload (Y := YX9_sure) dX9_sure_87 rfl ?_
            refine r_iconst (Y := YX9_sure) dX9_sure_89 ?_
            refine r_ixor (Y := YX9_sure) dX9_sure_90 ?_
            refine r_iand (Y := YX9_sure) dX9_sure_91 ?_
            refine r_goto (Y := YX9_sure) (tgt := 99) dX9_sure_92 (by decide) ?_
            refine r_ireturn (Y := YX9_sure) dX9_sure_99 ?_
            unfold sureF
            (repeat (first | rw [if_pos (by omega)] | rw [if_neg (by omega)]))
            first
              | exact ⟨rfl, hM, fun _ _ _ => rfl⟩
              | exact ⟨rfl, hM.kept (fun k i b => f96 k i (by omega)), fun k i b => f96 k i (by omega)⟩
        · refine r_iload_n (Y := YX9_sure) dX9_sure_76 rfl ?_
          refine r_goto (Y := YX9_sure) (tgt := 99) dX9_sure_77 (by decide) ?_
          refine r_ireturn (Y := YX9_sure) dX9_sure_99 ?_
          unfold sureF
          (repeat (first | rw [if_pos (by omega)] | rw [if_neg (by omega)]))
          first
            | exact ⟨rfl, hM, fun _ _ _ => rfl⟩
            | exact ⟨rfl, hM.kept (fun k i b => f96 k i (by omega)), fun k i b => f96 k i (by omega)⟩
      · refine r_bipush (Y := YX9_sure) dX9_sure_67 ?_
        refine r_goto (Y := YX9_sure) (tgt := 99) dX9_sure_69 (by decide) ?_
        refine r_ireturn (Y := YX9_sure) dX9_sure_99 ?_
        unfold sureF
        (repeat (first | rw [if_pos (by omega)] | rw [if_neg (by omega)]))
        first
          | exact ⟨rfl, hM, fun _ _ _ => rfl⟩
          | exact ⟨rfl, hM.kept (fun k i b => f96 k i (by omega)), fun k i b => f96 k i (by omega)⟩
    | succ k ih =>
      intro n e1
      have hcl1 := (hc64 n).1
      have ih := ih (n + 1) (by omega)
      refine r_iload (Y := YX9_sure) dX9_sure_26 rfl ?_
      refine r_bipush (Y := YX9_sure) dX9_sure_28 ?_
      refine r_icmp_ge (Y := YX9_sure) (tgt := 63) dX9_sure_30 (by decide) (fun c30 => absurd c30 (by omega)) (fun c30 => ?_) 
      refine r_aload_n (Y := YX9_sure) dX9_sure_33 rfl ?_
      refine r_iload (Y := YX9_sure) dX9_sure_34 rfl ?_
      refine r_iV1I (Y := YX9_sure) mv_X9_240 dX9_sure_36 (c_X9_fits hm hA.1 hb hE hL hO (by omega) (by omega)) (by assumption) (fun σ36 z36 h36 => ?_)
      obtain ⟨e36, f36⟩ := h36
      subst e36
      refine r_if_eq (Y := YX9_sure) (tgt := 57) dX9_sure_39 (by decide) (fun c39 => ?_) (fun c39 => ?_) 
      · refine r_iinc (Y := YX9_sure) dX9_sure_57 rfl ?_
        refine r_goto (Y := YX9_sure) (tgt := 26) dX9_sure_60 (by decide) ?_
        first
          | (have hf : fitL (aH G.1.1) n G.1.2.2 = true := by rcases f36 with q | q; exact q.2; (exfalso; omega)
             rw [cb_one hf, List.length_append, List.length_singleton, each_app, some_app] at ih
             exact R2.weak (by repeat first | exact trivial | refine And.intro rfl ?_) ih)
          | (have hf : ¬ fitL (aH G.1.1) n G.1.2.2 = true := by rcases f36 with q | q; (exfalso; omega); exact q.2
             rw [cb_not hf] at ih
             exact R2.weak (by repeat first | exact trivial | refine And.intro rfl ?_) ih)
      · refine r_iinc (Y := YX9_sure) dX9_sure_42 rfl ?_
        refine r_iload_n (Y := YX9_sure) dX9_sure_45 rfl ?_
        refine r_iload (Y := YX9_sure) dX9_sure_46 rfl ?_
        refine r_iand (Y := YX9_sure) dX9_sure_48 ?_
        refine r_istore_n (Y := YX9_sure) dX9_sure_49 ?_
        refine r_iload (Y := YX9_sure) dX9_sure_50 rfl ?_
        refine r_iload (Y := YX9_sure) dX9_sure_52 rfl ?_
        refine r_ior (Y := YX9_sure) dX9_sure_54 ?_
        refine r_istore (Y := YX9_sure) dX9_sure_55 ?_
        refine r_iinc (Y := YX9_sure) dX9_sure_57 rfl ?_
        refine r_goto (Y := YX9_sure) (tgt := 26) dX9_sure_60 (by decide) ?_
        first
          | (have hf : fitL (aH G.1.1) n G.1.2.2 = true := by rcases f36 with q | q; exact q.2; (exfalso; omega)
             rw [cb_one hf, List.length_append, List.length_singleton, each_app, some_app] at ih
             exact R2.weak (by repeat first | exact trivial | refine And.intro rfl ?_) ih)
          | (have hf : ¬ fitL (aH G.1.1) n G.1.2.2 = true := by rcases f36 with q | q; (exfalso; omega); exact q.2
             rw [cb_not hf] at ih
             exact R2.weak (by repeat first | exact trivial | refine And.intro rfl ?_) ih)
  · refine r_bipush (Y := YX9_sure) dX9_sure_12 ?_
    refine r_ireturn (Y := YX9_sure) dX9_sure_14 ?_
    first
      | (exfalso; omega)
      | (unfold sureF; (repeat (first | rw [if_pos (by omega)] | rw [if_neg (by omega)])); exact ⟨rfl, hM, fun _ _ _ => rfl⟩)
