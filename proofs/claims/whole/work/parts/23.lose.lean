theorem RR.kept {σ τ : ab_S} {p : Int} {L : List Lk} (h : RR σ p L) (hf : ∀ k i : Int, p ≤ k → k ≤ p + 3 → τ k i = σ k i) : RR τ p L :=
  ⟨by rw [hf p 3 (by omega) (by omega)]; exact h.1, fun i l hl => by
    obtain ⟨f1, f2, f3⟩ := h.2 i l hl
    exact ⟨by rw [hf _ _ (by omega) (by omega)]; exact f1, by rw [hf _ _ (by omega) (by omega)]; exact f2, by rw [hf _ _ (by omega) (by omega)]; exact f3⟩⟩
theorem RR.cut {σ τ : ab_S} {p x : Int} {L : List Lk} {i : Nat} {l : Lk} (h : RR σ p L) (hl : L[i]? = some l) (hx : τ (p + 2) i = x) (hf : ∀ k j : Int, p ≤ k → k ≤ p + 3 → ¬ (k = p + 2 ∧ j = i) → τ k j = σ k j) : RR τ p (L.set i (l.1, x, l.2.2)) := by
  have hi : i < L.length := (List.getElem?_eq_some_iff.mp hl).1
  refine ⟨by rw [hf p 3 (by omega) (by omega) (by omega), List.length_set]; exact h.1, fun j q hq => ?_⟩
  by_cases e : i = j
  · subst e
    rw [List.getElem?_set_self hi] at hq
    cases hq
    obtain ⟨f1, f2, f3⟩ := h.2 i l hl
    exact ⟨by rw [hf _ _ (by omega) (by omega) (by omega)]; exact f1, hx, by rw [hf _ _ (by omega) (by omega) (by omega)]; exact f3⟩
  · rw [List.getElem?_set_ne e] at hq
    obtain ⟨f1, f2, f3⟩ := h.2 j q hq
    exact ⟨by rw [hf _ _ (by omega) (by omega) (by omega)]; exact f1, by rw [hf _ _ (by omega) (by omega) (by omega)]; exact f2, by rw [hf _ _ (by omega) (by omega) (by omega)]; exact f3⟩
theorem drop_set {L : List Lk} {i : Nat} {l q : Lk} (hl : L[i]? = some l) : (L.set i q).drop i = q :: L.drop (i + 1) := by
  have hi : i < L.length := (List.getElem?_eq_some_iff.mp hl).1
  rw [drop_cons (L := L.set i q) (i := i) (l := q) (List.getElem?_set_self hi), List.drop_set_of_lt (by omega)]
set_option maxRecDepth 20000 in
theorem c_X5_lose {σ : ab_S} {p w len : Int} {L : List Lk} (hp : kd_ p 5 4) (hw : kd_ w 10 6) (hR : RR σ p L) (hW : WL L) (h0 : 0 ≤ len) (h1 : len ≤ 1000) (hap : w < p ∨ p + 3 < w) : C2 YX5_lose 2 σ [rf p, iv len, rf w] (PV fun σ' => RR σ' p (loseL len L) ∧ (∀ m : Int, 0 ≤ m → m < 6 → σ' w m = σ w m + lostL len L m) ∧ ∀ k i : Int, k < p ∨ p + 3 < k → k ≠ w → σ' k i = σ k i) := by
  obtain ⟨k1, k2, k3⟩ := kd_rope hp
  have hW1 := hW.1
  refine C2.of (by decide +kernel) (Nat.le_of_ble_eq_true rfl) ?_
  have htail : ∀ (i : Nat) (x : Int) (τ : ab_S), i ≤ L.length → 0 ≤ x → x ≤ 1000 → (∀ k j : Int, k ≠ w → τ k j = σ k j) → (∀ m : Int, τ w m + lostL x (L.drop i) m = σ w m + lostL len L m) → loseL x (L.drop i) = loseL len L → (∀ l, L[i]? = some l → x < l.2.1) → R2 YX5_lose 2 τ 60 [some (rf p), some (iv len), some (rf w), some (iv x), some (iv i)] [] (PV fun σ' => RR σ' p (loseL len L) ∧ (∀ m : Int, 0 ≤ m → m < 6 → σ' w m = σ w m + lostL len L m) ∧ ∀ k i : Int, k < p ∨ p + 3 < k → k ≠ w → σ' k i = σ k i) := by
    intro i x τ g1 g2 g3 g4 g5 g6 g7
    have hRt : RR τ p L := hR.kept (fun k j _ _ => g4 k j (by omega))
    by_cases hi : i = L.length
    · subst hi
      rw [drop_end (Nat.le_refl _)] at g5 g6
      refine r_iload (Y := YX5_lose) dX5_lose_60 rfl ?_
      refine r_aload_n (Y := YX5_lose) dX5_lose_62 rfl ?_
      refine r_getV (Y := YX5_lose) (v := (L.length : Int)) (jz := 3) fl_X5_21 dX5_lose_63 (hRt.1) ?_
      refine r_icmp_ge (Y := YX5_lose) (tgt := 93) dX5_lose_66 (by decide) (fun c66 => ?_) (fun c66 => absurd c66 (by omega)) 
      refine r_aload_n (Y := YX5_lose) dX5_lose_93 rfl ?_
      refine r_iload (Y := YX5_lose) dX5_lose_94 rfl ?_
      refine r_iV1V (Y := YX5_lose) mv_X5_35 dX5_lose_96 (c_X5_dropOldest (n := L.length) (L := L) hp hRt (by omega) (by omega)) (by assumption) (fun σ96 h96 => ?_)
      refine r_return (Y := YX5_lose) dX5_lose_99 ?_
      obtain ⟨a1, a2⟩ := h96
      rw [drop_end (Nat.le_refl _)] at a1
      refine ⟨by rw [← g6]; exact a1, fun m hm1 hm2 => ?_, fun k j hk hkw => ?_⟩
      · rw [a2 w m (by omega), ← g5 m]; exact (Int.add_zero _).symm
      · rw [a2 k j hk, g4 k j hkw]
    · obtain ⟨l, hl, hm⟩ := get_some (L := L) (i := i) (by omega)
      obtain ⟨f1, f2, f3⟩ := hRt.2 i l hl
      have ho := hW.2 l hm
      have hx := g7 l hl
      unfold okL at ho
      rw [drop_cons hl] at g5 g6
      refine r_iload (Y := YX5_lose) dX5_lose_60 rfl ?_
      refine r_aload_n (Y := YX5_lose) dX5_lose_62 rfl ?_
      refine r_getV (Y := YX5_lose) (v := (L.length : Int)) (jz := 3) fl_X5_21 dX5_lose_63 (hRt.1) ?_
      refine r_icmp_ge (Y := YX5_lose) (tgt := 93) dX5_lose_66 (by decide) (fun c66 => absurd c66 (by omega)) (fun c66 => ?_) 
      refine r_aload_n (Y := YX5_lose) dX5_lose_69 rfl ?_
      refine r_getR (Y := YX5_lose) (δz := 2) fl_X5_15 dX5_lose_70 rfl rfl ?_
      refine r_iload (Y := YX5_lose) dX5_lose_73 rfl ?_
      refine r_dup2 (Y := YX5_lose) dX5_lose_75 ?_
      refine r_iaV (Y := YX5_lose) (v := l.2.1) dX5_lose_76 (f2) ?_
      refine r_iload_n (Y := YX5_lose) dX5_lose_77 rfl ?_
      refine r_isub (Y := YX5_lose) dX5_lose_78 ?_
      refine r_iastore (Y := YX5_lose) dX5_lose_79 ?_
      refine r_aload_n (Y := YX5_lose) dX5_lose_80 rfl ?_
      refine r_aload_n (Y := YX5_lose) dX5_lose_81 rfl ?_
      refine r_getR (Y := YX5_lose) (δz := 1) fl_X5_9 dX5_lose_82 rfl rfl ?_
      refine r_iload (Y := YX5_lose) dX5_lose_85 rfl ?_
      refine r_iaV (Y := YX5_lose) (v := l.1) dX5_lose_87 ((by rw [← f1]; exact (by (try delta up); (try delta cpy); (try dsimp only); repeat (first | rw [if_pos (by omega)] | rw [if_neg (by omega)]); try (first | rfl | assumption | omega)))) ?_
      refine r_dup2 (Y := YX5_lose) dX5_lose_88 ?_
      refine r_iaV (Y := YX5_lose) (v := τ w l.1) dX5_lose_89 (by (try delta up); (try delta cpy); (try dsimp only); repeat (first | rw [if_pos (by omega)] | rw [if_neg (by omega)]); try (first | rfl | assumption | omega)) ?_
      refine r_iload_n (Y := YX5_lose) dX5_lose_90 rfl ?_
      refine r_iadd (Y := YX5_lose) dX5_lose_91 ?_
      refine r_iastore (Y := YX5_lose) dX5_lose_92 ?_
      refine r_aload_n (Y := YX5_lose) dX5_lose_93 rfl ?_
      refine r_iload (Y := YX5_lose) dX5_lose_94 rfl ?_
      refine r_iV1V (Y := YX5_lose) mv_X5_35 dX5_lose_96 (c_X5_dropOldest (n := i) (L := L.set i (l.1, l.2.1 - x, l.2.2)) hp (hRt.cut hl (by (try delta up); (try delta cpy); (try dsimp only); repeat (first | rw [if_pos (by omega)] | rw [if_neg (by omega)]); try (first | rfl | assumption | omega)) (fun k j _ _ hkj => by (try delta up); (try delta cpy); (try dsimp only); repeat (first | rw [if_pos (by omega)] | rw [if_neg (by omega)]); try (first | rfl | assumption | omega))) (by rw [List.length_set]; omega) (by rw [List.length_set]; omega)) (by assumption) (fun σ96 h96 => ?_)
      refine r_return (Y := YX5_lose) dX5_lose_99 ?_
      obtain ⟨a1, a2⟩ := h96
      rw [drop_set hl] at a1
      have e6 : loseL x (l :: L.drop (i + 1)) = (l.1, l.2.1 - x, l.2.2) :: L.drop (i + 1) := if_neg (by omega)
      refine ⟨by rw [← g6, e6]; exact a1, fun m hm1 hm2 => ?_, fun k j hk hkw => ?_⟩
      · have e7 : lostL x (l :: L.drop (i + 1)) m = if l.1 = m then x else 0 := if_neg (by omega)
        have g9 := g5 m
        rw [e7] at g9
        rw [a2 w m (by omega)]
        by_cases hm9 : l.1 = m
        · rw [if_pos hm9] at g9
          rw [← g9]
          subst hm9
          exact by (try delta up); (try delta cpy); (try dsimp only); repeat (first | rw [if_pos (by omega)] | rw [if_neg (by omega)]); try (first | rfl | assumption | omega)
        · rw [if_neg hm9] at g9
          rw [← g9, Int.add_zero]
          exact by (try delta up); (try delta cpy); (try dsimp only); repeat (first | rw [if_pos (by omega)] | rw [if_neg (by omega)]); try (first | rfl | assumption | omega)
      · rw [a2 k j hk, ← g4 k j hkw]
        exact by (try delta up); (try delta cpy); (try dsimp only); repeat (first | rw [if_pos (by omega)] | rw [if_neg (by omega)]); try (first | rfl | assumption | omega)
  refine r_iload_n (Y := YX5_lose) dX5_lose_0 rfl ?_
  refine r_istore_n (Y := YX5_lose) dX5_lose_1 ?_
  refine r_iconst (Y := YX5_lose) dX5_lose_2 ?_
  refine r_istore (Y := YX5_lose) dX5_lose_3 ?_
  suffices hloop : ∀ (k i : Nat) (x : Int) (τ : ab_S), i + k = L.length → 0 ≤ x → x ≤ 1000 → (∀ k j : Int, k ≠ w → τ k j = σ k j) → (∀ m : Int, τ w m + lostL x (L.drop i) m = σ w m + lostL len L m) → loseL x (L.drop i) = loseL len L → R2 YX5_lose 2 τ 5 [some (rf p), some (iv len), some (rf w), some (iv x), some (iv i)] [] (PV fun σ' => RR σ' p (loseL len L) ∧ (∀ m : Int, 0 ≤ m → m < 6 → σ' w m = σ w m + lostL len L m) ∧ ∀ k i : Int, k < p ∨ p + 3 < k → k ≠ w → σ' k i = σ k i) from
    R2.weak (by repeat first | exact trivial | refine And.intro rfl ?_) (hloop L.length 0 len σ (by omega) h0 h1 (fun _ _ _ => rfl) (fun m => by rw [List.drop_zero]) (by rw [List.drop_zero]))
  intro k
  induction k with
  | zero =>
    intro i x τ e1 e2 e3 g4 g5 g6
    have hRt : RR τ p L := hR.kept (fun k j _ _ => g4 k j (by omega))
    refine r_iload (Y := YX5_lose) dX5_lose_5 rfl ?_
    refine r_aload_n (Y := YX5_lose) dX5_lose_7 rfl ?_
    refine r_getV (Y := YX5_lose) (v := (L.length : Int)) (jz := 3) fl_X5_21 dX5_lose_8 (hRt.1) ?_
    refine r_icmp_ge (Y := YX5_lose) (tgt := 60) dX5_lose_11 (by decide) (fun c11 => ?_) (fun c11 => absurd c11 (by omega)) 
    exact R2.weak (by repeat first | exact trivial | refine And.intro rfl ?_) (htail i x τ (by omega) e2 e3 g4 g5 g6 (fun l hl => by have := (List.getElem?_eq_some_iff.mp hl).1; omega))
  | succ k ih =>
    intro i x τ e1 e2 e3 g4 g5 g6
    have hRt : RR τ p L := hR.kept (fun k j _ _ => g4 k j (by omega))
    obtain ⟨l, hl, hm⟩ := get_some (L := L) (i := i) (by omega)
    obtain ⟨f1, f2, f3⟩ := hRt.2 i l hl
    have ho := hW.2 l hm
    unfold okL at ho
    refine r_iload (Y := YX5_lose) dX5_lose_5 rfl ?_
    refine r_aload_n (Y := YX5_lose) dX5_lose_7 rfl ?_
    refine r_getV (Y := YX5_lose) (v := (L.length : Int)) (jz := 3) fl_X5_21 dX5_lose_8 (hRt.1) ?_
    refine r_icmp_ge (Y := YX5_lose) (tgt := 60) dX5_lose_11 (by decide) (fun c11 => absurd c11 (by omega)) (fun c11 => ?_) 
    refine r_aload_n (Y := YX5_lose) dX5_lose_14 rfl ?_
    refine r_getR (Y := YX5_lose) (δz := 2) fl_X5_15 dX5_lose_15 rfl rfl ?_
    refine r_iload (Y := YX5_lose) dX5_lose_18 rfl ?_
    refine r_iaV (Y := YX5_lose) (v := l.2.1) dX5_lose_20 (f2) ?_
    refine r_iload_n (Y := YX5_lose) dX5_lose_21 rfl ?_
    refine r_icmp_gt (Y := YX5_lose) (tgt := 60) dX5_lose_22 (by decide) (fun c22 => ?_) (fun c22 => ?_) 
    · exact R2.weak (by repeat first | exact trivial | refine And.intro rfl ?_) (htail i x τ (by omega) e2 e3 g4 g5 g6 (fun q hq => by rw [hl] at hq; cases hq; omega))
    · refine r_iload_n (Y := YX5_lose) dX5_lose_25 rfl ?_
      refine r_aload_n (Y := YX5_lose) dX5_lose_26 rfl ?_
      refine r_getR (Y := YX5_lose) (δz := 2) fl_X5_15 dX5_lose_27 rfl rfl ?_
      refine r_iload (Y := YX5_lose) dX5_lose_30 rfl ?_
      refine r_iaV (Y := YX5_lose) (v := l.2.1) dX5_lose_32 (f2) ?_
      refine r_isub (Y := YX5_lose) dX5_lose_33 ?_
      refine r_istore_n (Y := YX5_lose) dX5_lose_34 ?_
      refine r_aload_n (Y := YX5_lose) dX5_lose_35 rfl ?_
      refine r_aload_n (Y := YX5_lose) dX5_lose_36 rfl ?_
      refine r_getR (Y := YX5_lose) (δz := 1) fl_X5_9 dX5_lose_37 rfl rfl ?_
      refine r_iload (Y := YX5_lose) dX5_lose_40 rfl ?_
      refine r_iaV (Y := YX5_lose) (v := l.1) dX5_lose_42 (f1) ?_
      refine r_dup2 (Y := YX5_lose) dX5_lose_43 ?_
      refine r_iaload (Y := YX5_lose) dX5_lose_44 ?_
      refine r_aload_n (Y := YX5_lose) dX5_lose_45 rfl ?_
      refine r_getR (Y := YX5_lose) (δz := 2) fl_X5_15 dX5_lose_46 rfl rfl ?_
      refine r_iload (Y := YX5_lose) dX5_lose_49 rfl ?_
      refine r_iaV (Y := YX5_lose) (v := l.2.1) dX5_lose_51 (f2) ?_
      refine r_iadd (Y := YX5_lose) dX5_lose_52 ?_
      refine r_iastore (Y := YX5_lose) dX5_lose_53 ?_
      refine r_iinc (Y := YX5_lose) dX5_lose_54 rfl ?_
      refine r_goto (Y := YX5_lose) (tgt := 5) dX5_lose_57 (by decide) ?_
      have e6 : loseL x (L.drop i) = loseL (x - l.2.1) (L.drop (i + 1)) := by rw [drop_cons hl]; exact if_pos (by omega)
      refine R2.weak (by repeat first | exact trivial | refine And.intro rfl ?_) (ih (i + 1) (x - l.2.1) _ (by omega) (by omega) (by omega) (fun k j hk => by rw [← g4 k j hk]; exact (by (try delta up); (try delta cpy); (try dsimp only); repeat (first | rw [if_pos (by omega)] | rw [if_neg (by omega)]); try (first | rfl | assumption | omega))) (fun m => ?_) (by rw [← e6]; exact g6))
      rw [← g5 m, drop_cons hl]
      have e7 : lostL x (l :: L.drop (i + 1)) m = (if l.1 = m then l.2.1 else 0) + lostL (x - l.2.1) (L.drop (i + 1)) m := if_pos (by omega)
      rw [e7]
      by_cases hm9 : l.1 = m
      · rw [if_pos hm9]
        subst hm9
        rw [up_same]
        omega
      · rw [if_neg hm9, up_ne (by omega)]
        omega
