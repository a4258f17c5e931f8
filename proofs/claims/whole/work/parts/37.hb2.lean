/-! the component whole: texts, locks, loads, images -/
theorem folS_bd : ∀ (xs : List Int) (e m op p i : Int) (B : AB), fltL e i xs = -6 → 0 ≤ i → (e = 0 ∨ (e = 1 ∧ 65 ≤ m ∧ m ≤ 70) ∨ (e = 2 ∧ 65 ≤ m ∧ m ≤ 70)) → WA B → 0 ≤ p → (0 ≤ (folS xs e m op p B).1 ∧ (folS xs e m op p B).1 ≤ p + xs.length) ∧ (0 ≤ (folS xs e m op p B).2.1 ∧ (folS xs e m op p B).2.1 ≤ 5) ∧ WA (folS xs e m op p B).2.2
  | [], e, m, op, p, i, B, hf, hi, he, hB, hp => by
    unfold folS
    exact ⟨⟨hp, by show p ≤ p + 0; omega⟩, ⟨Int.le_refl 0, by show (0 : Int) ≤ 5; omega⟩, hB⟩
  | s :: r, e, m, op, p, i, B, hf, hi, he, hB, hp => by
    have hf2 : (if beh e s = 3 then i else fltL (beh e s) (i + 1) r) = -6 := hf
    have hb : ¬ beh e s = 3 := fun h => by rw [if_pos h] at hf2; omega
    rw [if_neg hb] at hf2
    have hlen : ((s :: r).length : Int) = r.length + 1 := by rw [List.length_cons]; omega
    rw [hlen]
    unfold folS
    rcases he with he | ⟨he, hm1, hm2⟩ | ⟨he, hm1, hm2⟩
    · subst he
      unfold beh at hb hf2
      rw [if_pos rfl] at hb hf2
      rw [if_pos rfl]
      by_cases h1 : s = 46
      · rw [if_pos h1] at hf2
        rw [if_pos h1]
        have := folS_bd r 0 0 0 (p + 1) (i + 1) (weekA B) hf2 (by omega) (Or.inl rfl) (WA_weekA hB) (by omega)
        exact ⟨⟨this.1.1, by have := this.1.2; omega⟩, this.2⟩
      · rw [if_neg h1] at hf2 hb
        rw [if_neg h1]
        by_cases h2 : 65 ≤ s ∧ s ≤ 70
        · rw [if_pos h2] at hf2
          have := folS_bd r 1 s 0 p (i + 1) B hf2 (by omega) (Or.inr (Or.inl ⟨rfl, h2⟩)) hB hp
          exact ⟨⟨this.1.1, by have := this.1.2; omega⟩, this.2⟩
        · rw [if_neg h2] at hb
          exact absurd rfl hb
    · subst he
      unfold beh at hb hf2
      rw [if_neg (by omega), if_pos rfl] at hb hf2
      rw [if_neg (by omega), if_pos rfl]
      by_cases h1 : s = 43 ∨ s = 45
      · rw [if_pos h1] at hf2
        rw [if_pos h1]
        have := folS_bd r 2 m s p (i + 1) B hf2 (by omega) (Or.inr (Or.inr ⟨rfl, hm1, hm2⟩)) hB hp
        exact ⟨⟨this.1.1, by have := this.1.2; omega⟩, this.2⟩
      · rw [if_neg h1] at hf2 hb
        rw [if_neg h1]
        by_cases h2 : 48 ≤ s ∧ s ≤ 51
        · rw [if_pos h2] at hf2
          by_cases h3 : weaveZ B (m - 65) (s - 48) = 0
          · rw [if_pos h3]
            have := folS_bd r 0 0 0 (p + 1) (i + 1) (weaveR B (m - 65) (s - 48)) hf2 (by omega) (Or.inl rfl) (WA_weaveR hB (by omega) (by omega) (by omega) (by omega)) (by omega)
            exact ⟨⟨this.1.1, by have := this.1.2; omega⟩, this.2⟩
          · rw [if_neg h3]
            exact ⟨⟨hp, by show p ≤ p + (r.length + 1); omega⟩, weaveZ_bd _ _ _, hB⟩
        · rw [if_neg h2] at hb
          exact absurd rfl hb
    · subst he
      unfold beh at hb hf2
      rw [if_neg (by omega), if_neg (by omega)] at hb hf2
      rw [if_neg (by omega), if_neg (by omega)]
      by_cases h2 : 49 ≤ s ∧ s ≤ 57
      · rw [if_pos h2] at hf2
        by_cases h1 : op = 43
        · rw [if_pos h1]
          by_cases h3 : sinZ B (m - 65) (s - 48) = 0
          · rw [if_pos h3]
            have := folS_bd r 0 0 0 (p + 1) (i + 1) (sinR B (m - 65) (s - 48)) hf2 (by omega) (Or.inl rfl) (WA_sinR hB (by omega) (by omega) (by omega)) (by omega)
            exact ⟨⟨this.1.1, by have := this.1.2; omega⟩, this.2⟩
          · rw [if_neg h3]
            exact ⟨⟨hp, by show p ≤ p + (r.length + 1); omega⟩, sinZ_bd _ _ _, hB⟩
        · rw [if_neg h1]
          by_cases h3 : prayZ B (m - 65) (s - 48) = 0
          · rw [if_pos h3]
            have := folS_bd r 0 0 0 (p + 1) (i + 1) (prayR B (m - 65) (s - 48)) hf2 (by omega) (Or.inl rfl) (WA_prayR hB (by omega) (by omega) (by omega)) (by omega)
            exact ⟨⟨this.1.1, by have := this.1.2; omega⟩, this.2⟩
          · rw [if_neg h3]
            exact ⟨⟨hp, by show p ≤ p + (r.length + 1); omega⟩, prayZ_bd _ _ _, hB⟩
      · rw [if_neg h2] at hb
        exact absurd rfl hb
theorem follow_bd {xs : List Int} {B : AB} (h : fault xs = -6) (hL : xs.length ≤ 60) (hB : WA B) : (0 ≤ (follow xs B).1 ∧ (follow xs B).1 ≤ 60) ∧ (0 ≤ (follow xs B).2.1 ∧ (follow xs B).2.1 ≤ 5) ∧ WA (follow xs B).2.2 := by
  have := folS_bd xs 0 0 0 0 0 B h (by omega) (Or.inl rfl) hB (by omega)
  exact ⟨⟨this.1.1, by have := this.1.2; unfold follow; omega⟩, this.2⟩
theorem fltL_bd : ∀ (xs : List Int) (e i : Int), 0 ≤ i → -6 ≤ fltL e i xs ∧ fltL e i xs ≤ i + xs.length
  | [], e, i, h1 => by
    show -6 ≤ (if e = 0 then -6 else i) ∧ (if e = 0 then -6 else i) ≤ i + 0
    split <;> omega
  | s :: r, e, i, h1 => by
    have := fltL_bd r (beh e s) (i + 1) (by omega)
    show -6 ≤ (if beh e s = 3 then i else fltL (beh e s) (i + 1) r) ∧ (if beh e s = 3 then i else fltL (beh e s) (i + 1) r) ≤ i + ((s :: r).length : Int)
    rw [List.length_cons]
    split <;> omega
theorem fault_bd {xs : List Int} (hL : xs.length ≤ 60) : -6 ≤ fault xs ∧ fault xs ≤ 60 := by
  have := fltL_bd xs 0 0 (by omega)
  unfold fault
  omega
set_option maxRecDepth 20000 in
theorem c_X8_tryText {σ : ab_S} {x : Int} {G : GS} (hx : kd_ x 8 8) (hX : HX σ x G) (hG : OKG G) (hf : fault G.2.1 = -6) : C2 YX8_tryText 6 σ [rf x] (PI fun σ' z => z = 8 * (follow G.2.1 G.1.1).1 + (follow G.2.1 G.1.1).2.1 ∧ RA σ' (x + 95) (follow G.2.1 G.1.1).2.2 ∧ ∀ k i : Int, k < x + 95 ∨ x + 117 < k → σ' k i = σ k i) := by
  obtain ⟨k1, k2, k3, k4, k5, k6, k7, k8⟩ := kd_hb hx
  obtain ⟨w1, w2, w3⟩ := kd_whole k2
  obtain ⟨a1, a2, a3, a4, a5, a6⟩ := kd_abbey w1
  have hA := hX.1.1
  have hW := hG.1.1.1
  have hWL := hG.1.1.2
  refine C2.of (by decide +kernel) (Nat.le_of_ble_eq_true rfl) ?_
  refine r_aload_n (Y := YX8_tryText) dX8_tryText_0 rfl ?_
  refine r_getR (Y := YX8_tryText) (δz := 95) fl_X8_34 dX8_tryText_1 rfl rfl ?_
  refine r_aload_n (Y := YX8_tryText) dX8_tryText_4 rfl ?_
  refine r_getR (Y := YX8_tryText) (δz := 3) fl_X8_19 dX8_tryText_5 rfl rfl ?_
  refine r_getR (Y := YX8_tryText) (δz := 1) fl_X8_63 dX8_tryText_8 rfl rfl ?_
  refine r_iV1V (Y := YX8_tryText) mv_X8_101 dX8_tryText_11 (c_X0_become k5 w1 hA hW (by omega)) (by assumption) (fun σ11 h11 => ?_)
  obtain ⟨b1, b2⟩ := h11
  refine r_aload_n (Y := YX8_tryText) dX8_tryText_14 rfl ?_
  refine r_getR (Y := YX8_tryText) (δz := 1) fl_X8_10 dX8_tryText_15 rfl rfl ?_
  refine r_aload_n (Y := YX8_tryText) dX8_tryText_18 rfl ?_
  refine r_getR (Y := YX8_tryText) (δz := 95) fl_X8_34 dX8_tryText_19 rfl rfl ?_
  refine r_iV1I (Y := YX8_tryText) mv_X8_225 dX8_tryText_22 (c_X2_follow k1 k5 (hX.2.1.kept (fun q i c1 c2 => b2 q i (by omega))) hG.2.1 b1 hW hf (by omega)) (by assumption) (fun σ22 z22 h22 => ?_)
  obtain ⟨b3, b4, b5⟩ := h22
  refine r_ireturn (Y := YX8_tryText) dX8_tryText_25 ?_
  exact ⟨b3, b4, fun q i h9 => by rw [b5 q i (by omega)]; exact b2 q i (by omega)⟩
set_option maxRecDepth 20000 in
theorem c_X8_judge {σ : ab_S} {x : Int} {G : GS} (hx : kd_ x 8 8) (hX : HX σ x G) (hG : OKG G) {w : Int} (hw1 : -2147483648 ≤ w) (hw2 : w ≤ 2147483647) : C2 YX8_judge 7 σ [rf x, iv w] (PI fun σ' z => z = (judgeF G w).1 ∧ HX σ' x (judgeF G w).2 ∧ FX σ σ' x) := by
  obtain ⟨k1, k2, k3, k4, k5, k6, k7, k8⟩ := kd_hb hx
  obtain ⟨w1, w2, w3⟩ := kd_whole k2
  obtain ⟨a1, a2, a3, a4, a5, a6⟩ := kd_abbey w1
  have hA := hX.1.1
  have hW := hG.1.1.1
  have hWL := hG.1.1.2
  refine C2.of (by decide +kernel) (Nat.le_of_ble_eq_true rfl) ?_
  refine r_iload_n (Y := YX8_judge) dX8_judge_0 rfl ?_
  refine r_iconst (Y := YX8_judge) dX8_judge_1 ?_
  refine r_iconst (Y := YX8_judge) dX8_judge_2 ?_
  refine r_iS3I (Y := YX8_judge) ms_X8_59 dX8_judge_3 (c_isIn (by omega) (by omega) (by omega) (by omega) (by omega) (by omega)) (fun σ3 z3 h3 => ?_)
  obtain ⟨rfl, h3⟩ := h3
  refine r_if_ne (Y := YX8_judge) (tgt := 12) dX8_judge_6 (by decide) (fun c6 => ?_) (fun c6 => ?_) 
  · refine r_aload_n (Y := YX8_judge) dX8_judge_12 rfl ?_
    refine r_getR (Y := YX8_judge) (δz := 1) fl_X8_10 dX8_judge_13 rfl rfl ?_
    refine r_iV0I (Y := YX8_judge) mv_X8_88 dX8_judge_16 (c_X2_firstFault k1 hX.2.1 hG.2.1) (by assumption) (fun σ16 z16 h16 => ?_)
    obtain ⟨rfl, rfl⟩ := h16
    have hfb := fault_bd hG.2.1.1
    refine r_bipush (Y := YX8_judge) dX8_judge_19 ?_
    refine r_icmp_eq (Y := YX8_judge) (tgt := 27) dX8_judge_21 (by decide) (fun c21 => ?_) (fun c21 => ?_) 
    · refine r_aload_n (Y := YX8_judge) dX8_judge_27 rfl ?_
      refine r_iV0I (Y := YX8_judge) mv_X8_91 dX8_judge_28 (c_X8_tryText hx hX hG (by omega)) (by assumption) (fun σ28 z28 h28 => ?_)
      have hfo := follow_bd (B := G.1.1) (by omega) hG.2.1.1 hW
      obtain ⟨t1, t2, t3⟩ := h28
      refine r_istore_n (Y := YX8_judge) dX8_judge_31 ?_
      refine r_iload_n (Y := YX8_judge) dX8_judge_32 rfl ?_
      refine r_iS1I (Y := YX8_judge) ms_X8_94 dX8_judge_33 (c_X2_why (by omega) (by omega)) (fun σ33 z33 h33 => ?_)
      obtain ⟨rfl, h33⟩ := h33
      refine r_if_ne (Y := YX8_judge) (tgt := 42) dX8_judge_36 (by decide) (fun c36 => ?_) (fun c36 => ?_) 
      · refine r_iload_n (Y := YX8_judge) dX8_judge_42 rfl ?_
        refine r_if_ne (Y := YX8_judge) (tgt := 53) dX8_judge_43 (by decide) (fun c43 => ?_) (fun c43 => ?_) 
        · refine r_iload_n (Y := YX8_judge) dX8_judge_53 rfl ?_
          refine r_iS1I (Y := YX8_judge) ms_X8_94 dX8_judge_54 (c_X2_why (by omega) (by omega)) (fun σ54 z54 h54 => ?_)
          obtain ⟨rfl, h54⟩ := h54
          refine r_ireturn (Y := YX8_judge) dX8_judge_57 ?_
          first
            | (exfalso; omega)
            | (unfold judgeF; (repeat (first | rw [if_pos (by omega)] | rw [if_neg (by omega)])); exact ⟨by first | rfl | assumption | omega | (show _ = (_ : Int); omega), hX.kept (fun q i b => t3 q i (by omega)), fun q i b => t3 q i (by omega)⟩)
        · refine r_iload_n (Y := YX8_judge) dX8_judge_46 rfl ?_
          refine r_iS1I (Y := YX8_judge) ms_X8_98 dX8_judge_47 (c_X2_parts (by omega) (by omega)) (fun σ47 z47 h47 => ?_)
          obtain ⟨rfl, h47⟩ := h47
          refine r_goto (Y := YX8_judge) (tgt := 57) dX8_judge_50 (by decide) ?_
          refine r_ireturn (Y := YX8_judge) dX8_judge_57 ?_
          first
            | (exfalso; omega)
            | (unfold judgeF; (repeat (first | rw [if_pos (by omega)] | rw [if_neg (by omega)])); exact ⟨by first | rfl | assumption | omega | (show _ = (_ : Int); omega), hX.kept (fun q i b => t3 q i (by omega)), fun q i b => t3 q i (by omega)⟩)
      · refine r_bipush (Y := YX8_judge) dX8_judge_39 ?_
        refine r_ireturn (Y := YX8_judge) dX8_judge_41 ?_
        first
          | (exfalso; omega)
          | (unfold judgeF; (repeat (first | rw [if_pos (by omega)] | rw [if_neg (by omega)])); exact ⟨by first | rfl | assumption | omega | (show _ = (_ : Int); omega), hX.kept (fun q i b => t3 q i (by omega)), fun q i b => t3 q i (by omega)⟩)
    · refine r_bipush (Y := YX8_judge) dX8_judge_24 ?_
      refine r_ireturn (Y := YX8_judge) dX8_judge_26 ?_
      unfold judgeF
      (repeat (first | rw [if_pos (by omega)] | rw [if_neg (by omega)]))
      exact ⟨rfl, hX, fun _ _ _ => rfl⟩
  · refine r_bipush (Y := YX8_judge) dX8_judge_9 ?_
    refine r_ireturn (Y := YX8_judge) dX8_judge_11 ?_
    unfold judgeF
    (repeat (first | rw [if_pos (by omega)] | rw [if_neg (by omega)]))
    exact ⟨rfl, hX, fun _ _ _ => rfl⟩
set_option maxRecDepth 20000 in
theorem c_X8_done {σ : ab_S} {x : Int} {G : GS} (hx : kd_ x 8 8) (hX : HX σ x G) (hG : OKG G)  : C2 YX8_done 7 σ [rf x] (PI fun σ' z => z = (doneF G).1 ∧ HX σ' x (doneF G).2 ∧ FX σ σ' x) := by
  obtain ⟨k1, k2, k3, k4, k5, k6, k7, k8⟩ := kd_hb hx
  obtain ⟨w1, w2, w3⟩ := kd_whole k2
  obtain ⟨a1, a2, a3, a4, a5, a6⟩ := kd_abbey w1
  have hA := hX.1.1
  have hW := hG.1.1.1
  have hWL := hG.1.1.2
  refine C2.of (by decide +kernel) (Nat.le_of_ble_eq_true rfl) ?_
  refine r_aload_n (Y := YX8_done) dX8_done_0 rfl ?_
  refine r_getR (Y := YX8_done) (δz := 1) fl_X8_10 dX8_done_1 rfl rfl ?_
  refine r_iV0I (Y := YX8_done) mv_X8_88 dX8_done_4 (c_X2_firstFault k1 hX.2.1 hG.2.1) (by assumption) (fun σ4 z4 h4 => ?_)
  obtain ⟨rfl, rfl⟩ := h4
  have hfb := fault_bd hG.2.1.1
  refine r_bipush (Y := YX8_done) dX8_done_7 ?_
  refine r_icmp_eq (Y := YX8_done) (tgt := 15) dX8_done_9 (by decide) (fun c9 => ?_) (fun c9 => ?_) 
  · refine r_aload_n (Y := YX8_done) dX8_done_15 rfl ?_
    refine r_iV0I (Y := YX8_done) mv_X8_91 dX8_done_16 (c_X8_tryText hx hX hG (by omega)) (by assumption) (fun σ16 z16 h16 => ?_)
    have hfo := follow_bd (B := G.1.1) (by omega) hG.2.1.1 hW
    obtain ⟨t1, t2, t3⟩ := h16
    refine r_istore_n (Y := YX8_done) dX8_done_19 ?_
    refine r_iload_n (Y := YX8_done) dX8_done_20 rfl ?_
    refine r_iS1I (Y := YX8_done) ms_X8_94 dX8_done_21 (c_X2_why (by omega) (by omega)) (fun σ21 z21 h21 => ?_)
    obtain ⟨rfl, h21⟩ := h21
    refine r_if_eq (Y := YX8_done) (tgt := 30) dX8_done_24 (by decide) (fun c24 => ?_) (fun c24 => ?_) 
    · refine r_aload_n (Y := YX8_done) dX8_done_30 rfl ?_
      refine r_getR (Y := YX8_done) (δz := 3) fl_X8_19 dX8_done_31 rfl rfl ?_
      refine r_getR (Y := YX8_done) (δz := 1) fl_X8_63 dX8_done_34 rfl rfl ?_
      refine r_aload_n (Y := YX8_done) dX8_done_37 rfl ?_
      refine r_getR (Y := YX8_done) (δz := 95) fl_X8_34 dX8_done_38 rfl rfl ?_
      refine r_iV1V (Y := YX8_done) mv_X8_101 dX8_done_41 (c_X0_become w1 k5 t2 hfo.2.2 (by omega)) (by assumption) (fun σ41 h41 => ?_)
      obtain ⟨b1, b2⟩ := h41
      have hX2 : HX σ41 x (setA G (follow G.2.1 G.1.1).2.2) := hX.abb b1 (fun q i b => by rw [b2 q i (by omega)]; exact t3 q i (by omega))
      refine r_aload_n (Y := YX8_done) dX8_done_44 rfl ?_
      refine r_getR (Y := YX8_done) (δz := 1) fl_X8_10 dX8_done_45 rfl rfl ?_
      refine r_iV0I (Y := YX8_done) mv_X8_84 dX8_done_48 (c_X2_clear k1 hX2.2.1 hG.2.1) (by assumption) (fun σ48 z48 h48 => ?_)
      obtain ⟨_, q1, q2⟩ := h48
      have hX3 := hX2.padd q1 q2
      refine r_pop (Y := YX8_done) dX8_done_51 ?_
      refine r_iload_n (Y := YX8_done) dX8_done_52 rfl ?_
      refine r_iS1I (Y := YX8_done) ms_X8_98 dX8_done_53 (c_X2_parts (by omega) (by omega)) (fun σ53 z53 h53 => ?_)
      obtain ⟨rfl, h53⟩ := h53
      refine r_ireturn (Y := YX8_done) dX8_done_56 ?_
      first
        | (exfalso; omega)
        | (unfold doneF; (repeat (first | rw [if_pos (by omega)] | rw [if_neg (by omega)])); exact ⟨by first | rfl | assumption | omega | (show _ = (_ : Int); omega), hX3, fun q i b => by rw [q2 q i (by omega), b2 q i (by omega)]; exact t3 q i (by omega)⟩)
    · refine r_bipush (Y := YX8_done) dX8_done_27 ?_
      refine r_ireturn (Y := YX8_done) dX8_done_29 ?_
      first
        | (exfalso; omega)
        | (unfold doneF; (repeat (first | rw [if_pos (by omega)] | rw [if_neg (by omega)])); exact ⟨by first | rfl | assumption | omega | (show _ = (_ : Int); omega), hX.kept (fun q i b => t3 q i (by omega)), fun q i b => t3 q i (by omega)⟩)
  · refine r_bipush (Y := YX8_done) dX8_done_12 ?_
    refine r_ireturn (Y := YX8_done) dX8_done_14 ?_
    unfold doneF
    (repeat (first | rw [if_pos (by omega)] | rw [if_neg (by omega)]))
    exact ⟨rfl, hX, fun _ _ _ => rfl⟩
set_option maxRecDepth 20000 in
theorem c_X8_power {σ : ab_S} {x : Int} {G : GS} (hx : kd_ x 8 8) (hX : HX σ x G) (hG : OKG G) {r : Int} (hr1 : -2147483648 ≤ r) (hr2 : r ≤ 2147483647) : C2 YX8_power 2 σ [rf x, iv r] (PI fun σ' z => z = (powerF G r).1 ∧ HX σ' x (powerF G r).2 ∧ FX σ σ' x) := by
  obtain ⟨k1, k2, k3, k4, k5, k6, k7, k8⟩ := kd_hb hx
  obtain ⟨w1, w2, w3⟩ := kd_whole k2
  obtain ⟨a1, a2, a3, a4, a5, a6⟩ := kd_abbey w1
  have hA := hX.1.1
  have hW := hG.1.1.1
  have hWL := hG.1.1.2
  refine C2.of (by decide +kernel) (Nat.le_of_ble_eq_true rfl) ?_
  refine r_iload_n (Y := YX8_power) dX8_power_0 rfl ?_
  refine r_iconst (Y := YX8_power) dX8_power_1 ?_
  refine r_iconst (Y := YX8_power) dX8_power_2 ?_
  refine r_iS3I (Y := YX8_power) ms_X8_59 dX8_power_3 (c_isIn (by omega) (by omega) (by omega) (by omega) (by omega) (by omega)) (fun σ3 z3 h3 => ?_)
  obtain ⟨rfl, h3⟩ := h3
  refine r_if_ne (Y := YX8_power) (tgt := 11) dX8_power_6 (by decide) (fun c6 => ?_) (fun c6 => ?_) 
  · have kr := kd_ropes w1 (i := r) (by omega) (by omega)
    have hWr := hW.2.2.2.1 r (by omega) (by omega)
    refine r_aload_n (Y := YX8_power) dX8_power_11 rfl ?_
    refine r_getR (Y := YX8_power) (δz := 3) fl_X8_19 dX8_power_12 rfl rfl ?_
    refine r_getR (Y := YX8_power) (δz := 1) fl_X8_63 dX8_power_15 rfl rfl ?_
    refine r_getR (Y := YX8_power) (δz := 5) fl_X8_105 dX8_power_18 rfl rfl ?_
    refine r_iload_n (Y := YX8_power) dX8_power_21 rfl ?_
    first | refine r_aaload (Y := YX8_power) (δz := 2) (sz := 4) dX8_power_22 tg_12 rfl rfl ?_ | refine r_aaload (Y := YX8_power) (δz := 1) (sz := 30) dX8_power_22 tg_13 rfl rfl ?_ | refine r_aaload (Y := YX8_power) (δz := 1) (sz := 23) dX8_power_22 tg_14 rfl rfl ?_ | refine r_aaload (Y := YX8_power) (δz := 1) (sz := 1) dX8_power_22 tg_15 rfl rfl ?_
    refine r_iconst (Y := YX8_power) dX8_power_23 ?_
    refine r_aload_n (Y := YX8_power) dX8_power_24 rfl ?_
    refine r_getR (Y := YX8_power) (δz := 3) fl_X8_19 dX8_power_25 rfl rfl ?_
    refine r_getR (Y := YX8_power) (δz := 1) fl_X8_63 dX8_power_28 rfl rfl ?_
    refine r_getR (Y := YX8_power) (δz := 2) fl_X8_70 dX8_power_31 rfl rfl ?_
    refine r_iV2I (Y := YX8_power) mv_X8_123 dX8_power_34 (c_X5_powerLess kr (hA.2.2.2.2.1 r (by omega) (by omega)) a2 hWr (by omega) (by omega)) (by assumption) (fun σ34 z34 h34 => ?_)
    obtain ⟨rfl, rfl⟩ := h34
    rw [loseL_zero hWr.2, powL_congr hA.2.1 hWr.2]
    refine r_ireturn (Y := YX8_power) dX8_power_37 ?_
    unfold powerF
    (repeat (first | rw [if_pos (by omega)] | rw [if_neg (by omega)]))
    exact ⟨rfl, hX, fun _ _ _ => rfl⟩
  · refine r_iconst (Y := YX8_power) dX8_power_9 ?_
    refine r_ireturn (Y := YX8_power) dX8_power_10 ?_
    unfold powerF
    (repeat (first | rw [if_pos (by omega)] | rw [if_neg (by omega)]))
    exact ⟨rfl, hX, fun _ _ _ => rfl⟩
def bearsF (G : GS) : Int × GS := (bearsA G.1.1 0, G)
set_option maxRecDepth 20000 in
theorem c_X8_bears {σ : ab_S} {x : Int} {G : GS} (hx : kd_ x 8 8) (hX : HX σ x G) (hG : OKG G)  : C2 YX8_bears 3 σ [rf x] (PI fun σ' z => z = (bearsF G).1 ∧ HX σ' x (bearsF G).2 ∧ FX σ σ' x) := by
  obtain ⟨k1, k2, k3, k4, k5, k6, k7, k8⟩ := kd_hb hx
  obtain ⟨w1, w2, w3⟩ := kd_whole k2
  obtain ⟨a1, a2, a3, a4, a5, a6⟩ := kd_abbey w1
  have hA := hX.1.1
  have hW := hG.1.1.1
  have hWL := hG.1.1.2
  refine C2.of (by decide +kernel) (Nat.le_of_ble_eq_true rfl) ?_
  refine r_aload_n (Y := YX8_bears) dX8_bears_0 rfl ?_
  refine r_getR (Y := YX8_bears) (δz := 3) fl_X8_19 dX8_bears_1 rfl rfl ?_
  refine r_getR (Y := YX8_bears) (δz := 1) fl_X8_63 dX8_bears_4 rfl rfl ?_
  refine r_iconst (Y := YX8_bears) dX8_bears_7 ?_
  refine r_iV1I (Y := YX8_bears) mv_X8_127 dX8_bears_8 (c_X0_bearsLess w1 hA hW (by omega) (by omega)) (by assumption) (fun σ8 z8 h8 => ?_)
  obtain ⟨rfl, h9⟩ := h8
  refine r_ireturn (Y := YX8_bears) dX8_bears_11 ?_
  exact ⟨rfl, hX.kept (fun q i b => h9 q i (by omega)), fun q i b => h9 q i (by omega)⟩
set_option maxRecDepth 20000 in
theorem c_X8_broken {σ : ab_S} {x : Int} {G : GS} (hx : kd_ x 8 8) (hX : HX σ x G) (hG : OKG G) {l : Int} (hl1 : -2147483648 ≤ l) (hl2 : l ≤ 2147483647) : C2 YX8_broken 3 σ [rf x, iv l] (PI fun σ' z => z = (brokenF G l).1 ∧ HX σ' x (brokenF G l).2 ∧ FX σ σ' x) := by
  obtain ⟨k1, k2, k3, k4, k5, k6, k7, k8⟩ := kd_hb hx
  obtain ⟨w1, w2, w3⟩ := kd_whole k2
  obtain ⟨a1, a2, a3, a4, a5, a6⟩ := kd_abbey w1
  have hA := hX.1.1
  have hW := hG.1.1.1
  have hWL := hG.1.1.2
  refine C2.of (by decide +kernel) (Nat.le_of_ble_eq_true rfl) ?_
  refine r_iload_n (Y := YX8_broken) dX8_broken_0 rfl ?_
  refine r_iconst (Y := YX8_broken) dX8_broken_1 ?_
  refine r_ldc (Y := YX8_broken) (z := 99999) wc_X8_130 dX8_broken_2 (by decide) ?_
  refine r_iS3I (Y := YX8_broken) ms_X8_59 dX8_broken_4 (c_isIn (by omega) (by omega) (by omega) (by omega) (by omega) (by omega)) (fun σ4 z4 h4 => ?_)
  obtain ⟨rfl, h4⟩ := h4
  refine r_if_ne (Y := YX8_broken) (tgt := 13) dX8_broken_7 (by decide) (fun c7 => ?_) (fun c7 => ?_) 
  · refine r_aload_n (Y := YX8_broken) dX8_broken_13 rfl ?_
    refine r_getR (Y := YX8_broken) (δz := 3) fl_X8_19 dX8_broken_14 rfl rfl ?_
    refine r_getR (Y := YX8_broken) (δz := 1) fl_X8_63 dX8_broken_17 rfl rfl ?_
    refine r_iload_n (Y := YX8_broken) dX8_broken_20 rfl ?_
    refine r_iV1I (Y := YX8_broken) mv_X8_131 dX8_broken_21 (c_X0_brokenUnder w1 hA hW (by omega) (by omega)) (by assumption) (fun σ21 z21 h21 => ?_)
    obtain ⟨rfl, h9⟩ := h21
    refine r_ireturn (Y := YX8_broken) dX8_broken_24 ?_
    unfold brokenF
    (repeat (first | rw [if_pos (by omega)] | rw [if_neg (by omega)]))
    exact ⟨rfl, hX.kept (fun q i b => h9 q i (by omega)), fun q i b => h9 q i (by omega)⟩
  · refine r_bipush (Y := YX8_broken) dX8_broken_10 ?_
    refine r_ireturn (Y := YX8_broken) dX8_broken_12 ?_
    unfold brokenF
    (repeat (first | rw [if_pos (by omega)] | rw [if_neg (by omega)]))
    exact ⟨rfl, hX, fun _ _ _ => rfl⟩
set_option maxRecDepth 20000 in
theorem c_X8_led {σ : ab_S} {x : Int} {G : GS} (hx : kd_ x 8 8) (hX : HX σ x G) (hG : OKG G) {m : Int} (hm1 : -2147483648 ≤ m) (hm2 : m ≤ 2147483647) {w : Int} (hw1 : -2147483648 ≤ w) (hw2 : w ≤ 2147483647) : C2 YX8_led 2 σ [rf x, iv m, iv w] (PI fun σ' z => z = (ledF G m w).1 ∧ HX σ' x (ledF G m w).2 ∧ FX σ σ' x) := by
  obtain ⟨k1, k2, k3, k4, k5, k6, k7, k8⟩ := kd_hb hx
  obtain ⟨w1, w2, w3⟩ := kd_whole k2
  obtain ⟨a1, a2, a3, a4, a5, a6⟩ := kd_abbey w1
  have hA := hX.1.1
  have hW := hG.1.1.1
  have hWL := hG.1.1.2
  refine C2.of (by decide +kernel) (Nat.le_of_ble_eq_true rfl) ?_
  refine r_iload_n (Y := YX8_led) dX8_led_0 rfl ?_
  refine r_iconst (Y := YX8_led) dX8_led_1 ?_
  refine r_iconst (Y := YX8_led) dX8_led_2 ?_
  refine r_iS3I (Y := YX8_led) ms_X8_59 dX8_led_3 (c_isIn (by omega) (by omega) (by omega) (by omega) (by omega) (by omega)) (fun σ3 z3 h3 => ?_)
  obtain ⟨rfl, h3⟩ := h3
  refine r_if_ne (Y := YX8_led) (tgt := 11) dX8_led_6 (by decide) (fun c6 => ?_) (fun c6 => ?_) 
  · refine r_iload_n (Y := YX8_led) dX8_led_11 rfl ?_
    refine r_iconst (Y := YX8_led) dX8_led_12 ?_
    refine r_iconst (Y := YX8_led) dX8_led_13 ?_
    refine r_iS3I (Y := YX8_led) ms_X8_59 dX8_led_14 (c_isIn (by omega) (by omega) (by omega) (by omega) (by omega) (by omega)) (fun σ14 z14 h14 => ?_)
    obtain ⟨rfl, h14⟩ := h14
    refine r_if_ne (Y := YX8_led) (tgt := 23) dX8_led_17 (by decide) (fun c17 => ?_) (fun c17 => ?_) 
    · refine r_iload_n (Y := YX8_led) dX8_led_23 rfl ?_
      refine r_if_ne (Y := YX8_led) (tgt := 41) dX8_led_24 (by decide) (fun c24 => ?_) (fun c24 => ?_) 
      · refine r_aload_n (Y := YX8_led) dX8_led_41 rfl ?_
        refine r_getR (Y := YX8_led) (δz := 3) fl_X8_19 dX8_led_42 rfl rfl ?_
        refine r_getR (Y := YX8_led) (δz := 1) fl_X8_63 dX8_led_45 rfl rfl ?_
        refine r_getR (Y := YX8_led) (δz := 4) fl_X8_150 dX8_led_48 rfl rfl ?_
        refine r_iload_n (Y := YX8_led) dX8_led_51 rfl ?_
        refine r_iaV (Y := YX8_led) (v := aW G.1.1 m) dX8_led_52 (hA.2.2.2.1 m (by omega) (by omega)) ?_
        refine r_ireturn (Y := YX8_led) dX8_led_53 ?_
        unfold ledF
        (repeat (first | rw [if_pos (by omega)] | rw [if_neg (by omega)]))
        exact ⟨rfl, hX, fun _ _ _ => rfl⟩
      · refine r_aload_n (Y := YX8_led) dX8_led_27 rfl ?_
        refine r_getR (Y := YX8_led) (δz := 3) fl_X8_19 dX8_led_28 rfl rfl ?_
        refine r_getR (Y := YX8_led) (δz := 1) fl_X8_63 dX8_led_31 rfl rfl ?_
        refine r_iload_n (Y := YX8_led) dX8_led_34 rfl ?_
        refine r_iV1I (Y := YX8_led) mv_X8_147 dX8_led_35 (c_X0_inchesOf w1 hA hW (by omega) (by omega)) (by assumption) (fun σ35 z35 h35 => ?_)
        obtain ⟨rfl, rfl⟩ := h35
        refine r_goto (Y := YX8_led) (tgt := 53) dX8_led_38 (by decide) ?_
        refine r_ireturn (Y := YX8_led) dX8_led_53 ?_
        unfold ledF
        (repeat (first | rw [if_pos (by omega)] | rw [if_neg (by omega)]))
        exact ⟨rfl, hX, fun _ _ _ => rfl⟩
    · refine r_bipush (Y := YX8_led) dX8_led_20 ?_
      refine r_ireturn (Y := YX8_led) dX8_led_22 ?_
      unfold ledF
      (repeat (first | rw [if_pos (by omega)] | rw [if_neg (by omega)]))
      exact ⟨rfl, hX, fun _ _ _ => rfl⟩
  · refine r_iconst (Y := YX8_led) dX8_led_9 ?_
    refine r_ireturn (Y := YX8_led) dX8_led_10 ?_
    unfold ledF
    (repeat (first | rw [if_pos (by omega)] | rw [if_neg (by omega)]))
    exact ⟨rfl, hX, fun _ _ _ => rfl⟩
set_option maxRecDepth 20000 in
theorem c_X8_load {σ : ab_S} {x : Int} {G : GS} (hx : kd_ x 8 8) (hX : HX σ x G) (hG : OKG G) {u : Int} (hu1 : -2147483648 ≤ u) (hu2 : u ≤ 2147483647) {v : Int} (hv1 : -2147483648 ≤ v) (hv2 : v ≤ 2147483647) : C2 YX8_load 1 σ [rf x, iv u, iv v] (PI fun σ' z => z = (loadF G u v).1 ∧ HX σ' x (loadF G u v).2 ∧ FX σ σ' x) := by
  obtain ⟨k1, k2, k3, k4, k5, k6, k7, k8⟩ := kd_hb hx
  obtain ⟨w1, w2, w3⟩ := kd_whole k2
  obtain ⟨a1, a2, a3, a4, a5, a6⟩ := kd_abbey w1
  have hA := hX.1.1
  have hW := hG.1.1.1
  have hWL := hG.1.1.2
  refine C2.of (by decide +kernel) (Nat.le_of_ble_eq_true rfl) ?_
  refine r_iload_n (Y := YX8_load) dX8_load_0 rfl ?_
  refine r_iconst (Y := YX8_load) dX8_load_1 ?_
  refine r_sipush (Y := YX8_load) dX8_load_2 ?_
  refine r_iS3I (Y := YX8_load) ms_X8_59 dX8_load_5 (c_isIn (by omega) (by omega) (by omega) (by omega) (by omega) (by omega)) (fun σ5 z5 h5 => ?_)
  obtain ⟨rfl, h5⟩ := h5
  refine r_if_eq (Y := YX8_load) (tgt := 21) dX8_load_8 (by decide) (fun c8 => ?_) (fun c8 => ?_) 
  · refine r_bipush (Y := YX8_load) dX8_load_21 ?_
    refine r_ireturn (Y := YX8_load) dX8_load_23 ?_
    unfold loadF
    (repeat (first | rw [if_pos (by omega)] | rw [if_neg (by omega)]))
    exact ⟨rfl, hX, fun _ _ _ => rfl⟩
  · refine r_iload_n (Y := YX8_load) dX8_load_11 rfl ?_
    refine r_iconst (Y := YX8_load) dX8_load_12 ?_
    refine r_bipush (Y := YX8_load) dX8_load_13 ?_
    refine r_iS3I (Y := YX8_load) ms_X8_59 dX8_load_15 (c_isIn (by omega) (by omega) (by omega) (by omega) (by omega) (by omega)) (fun σ15 z15 h15 => ?_)
    obtain ⟨rfl, h15⟩ := h15
    refine r_if_ne (Y := YX8_load) (tgt := 24) dX8_load_18 (by decide) (fun c18 => ?_) (fun c18 => ?_) 
    · refine r_aload_n (Y := YX8_load) dX8_load_24 rfl ?_
      refine r_getR (Y := YX8_load) (δz := 3) fl_X8_19 dX8_load_25 rfl rfl ?_
      refine r_getR (Y := YX8_load) (δz := 24) fl_X8_153 dX8_load_28 rfl rfl ?_
      refine r_iload_n (Y := YX8_load) dX8_load_31 rfl ?_
      refine r_iload_n (Y := YX8_load) dX8_load_32 rfl ?_
      refine r_iV2I (Y := YX8_load) mv_X8_157 dX8_load_33 (c_X3_put w2 hX.1.2.1 hWL.1) (by assumption) (fun σ33 z33 h33 => ?_)
      obtain ⟨h33, f33⟩ := h33
      have hz33 : (z33 = 1 ∧ G.1.2.1.length < 6) ∨ (z33 = 0 ∧ G.1.2.1.length = 6) := by rcases h33 with q | q; exact Or.inl ⟨q.1, q.2.1⟩; exact Or.inr ⟨q.1, q.2.1⟩
      refine r_if_eq (Y := YX8_load) (tgt := 52) dX8_load_36 (by decide) (fun c36 => ?_) (fun c36 => ?_) 
      · refine r_bipush (Y := YX8_load) dX8_load_52 ?_
        refine r_ireturn (Y := YX8_load) dX8_load_54 ?_
        unfold loadF
        (repeat (first | rw [if_pos (by omega)] | rw [if_neg (by omega)]))
        rcases h33 with q | q
        · first | omega | exact ⟨rfl, hX.lo q.2.2 f33, fun k i b => f33 k i (by omega)⟩
        · first | omega | exact ⟨rfl, hX.lo q.2.2 f33, fun k i b => f33 k i (by omega)⟩
      · refine r_aload_n (Y := YX8_load) dX8_load_39 rfl ?_
        refine r_getR (Y := YX8_load) (δz := 3) fl_X8_19 dX8_load_40 rfl rfl ?_
        refine r_getR (Y := YX8_load) (δz := 24) fl_X8_153 dX8_load_43 rfl rfl ?_
        refine r_getV (Y := YX8_load) (v := (G.1.2.1.length : Int) + 1) (jz := 2) fl_X8_162 dX8_load_46 ((by rcases h33 with q | q; (have := q.2.2.1; rw [List.length_append] at this; exact this); omega)) ?_
        refine r_goto (Y := YX8_load) (tgt := 54) dX8_load_49 (by decide) ?_
        refine r_ireturn (Y := YX8_load) dX8_load_54 ?_
        unfold loadF
        (repeat (first | rw [if_pos (by omega)] | rw [if_neg (by omega)]))
        rcases h33 with q | q
        · first | omega | exact ⟨rfl, hX.lo q.2.2 f33, fun k i b => f33 k i (by omega)⟩
        · first | omega | exact ⟨rfl, hX.lo q.2.2 f33, fun k i b => f33 k i (by omega)⟩
    · refine r_bipush (Y := YX8_load) dX8_load_21 ?_
      refine r_ireturn (Y := YX8_load) dX8_load_23 ?_
      unfold loadF
      (repeat (first | rw [if_pos (by omega)] | rw [if_neg (by omega)]))
      exact ⟨rfl, hX, fun _ _ _ => rfl⟩
set_option maxRecDepth 20000 in
theorem c_X8_weighed {σ : ab_S} {x : Int} {G : GS} (hx : kd_ x 8 8) (hX : HX σ x G) (hG : OKG G) {u : Int} (hu1 : -2147483648 ≤ u) (hu2 : u ≤ 2147483647) {v : Int} (hv1 : -2147483648 ≤ v) (hv2 : v ≤ 2147483647) : C2 YX8_weighed 1 σ [rf x, iv u, iv v] (PI fun σ' z => z = (weighF G u v).1 ∧ HX σ' x (weighF G u v).2 ∧ FX σ σ' x) := by
  obtain ⟨k1, k2, k3, k4, k5, k6, k7, k8⟩ := kd_hb hx
  obtain ⟨w1, w2, w3⟩ := kd_whole k2
  obtain ⟨a1, a2, a3, a4, a5, a6⟩ := kd_abbey w1
  have hA := hX.1.1
  have hW := hG.1.1.1
  have hWL := hG.1.1.2
  refine C2.of (by decide +kernel) (Nat.le_of_ble_eq_true rfl) ?_
  refine r_iload_n (Y := YX8_weighed) dX8_weighed_0 rfl ?_
  refine r_iconst (Y := YX8_weighed) dX8_weighed_1 ?_
  refine r_bipush (Y := YX8_weighed) dX8_weighed_2 ?_
  refine r_iS3I (Y := YX8_weighed) ms_X8_59 dX8_weighed_4 (c_isIn (by omega) (by omega) (by omega) (by omega) (by omega) (by omega)) (fun σ4 z4 h4 => ?_)
  obtain ⟨rfl, h4⟩ := h4
  refine r_if_eq (Y := YX8_weighed) (tgt := 21) dX8_weighed_7 (by decide) (fun c7 => ?_) (fun c7 => ?_) 
  · refine r_bipush (Y := YX8_weighed) dX8_weighed_21 ?_
    refine r_ireturn (Y := YX8_weighed) dX8_weighed_23 ?_
    unfold weighF
    (repeat (first | rw [if_pos (by omega)] | rw [if_neg (by omega)]))
    exact ⟨rfl, hX, fun _ _ _ => rfl⟩
  · refine r_iload_n (Y := YX8_weighed) dX8_weighed_10 rfl ?_
    refine r_iconst (Y := YX8_weighed) dX8_weighed_11 ?_
    refine r_sipush (Y := YX8_weighed) dX8_weighed_12 ?_
    refine r_iS3I (Y := YX8_weighed) ms_X8_59 dX8_weighed_15 (c_isIn (by omega) (by omega) (by omega) (by omega) (by omega) (by omega)) (fun σ15 z15 h15 => ?_)
    obtain ⟨rfl, h15⟩ := h15
    refine r_if_ne (Y := YX8_weighed) (tgt := 24) dX8_weighed_18 (by decide) (fun c18 => ?_) (fun c18 => ?_) 
    · refine r_aload_n (Y := YX8_weighed) dX8_weighed_24 rfl ?_
      refine r_getR (Y := YX8_weighed) (δz := 3) fl_X8_19 dX8_weighed_25 rfl rfl ?_
      refine r_getR (Y := YX8_weighed) (δz := 27) fl_X8_188 dX8_weighed_28 rfl rfl ?_
      refine r_iload_n (Y := YX8_weighed) dX8_weighed_31 rfl ?_
      refine r_iload_n (Y := YX8_weighed) dX8_weighed_32 rfl ?_
      refine r_iV2I (Y := YX8_weighed) mv_X8_157 dX8_weighed_33 (c_X3_put w3 hX.1.2.2 hWL.2) (by assumption) (fun σ33 z33 h33 => ?_)
      obtain ⟨h33, f33⟩ := h33
      have hz33 : (z33 = 1 ∧ G.1.2.2.length < 6) ∨ (z33 = 0 ∧ G.1.2.2.length = 6) := by rcases h33 with q | q; exact Or.inl ⟨q.1, q.2.1⟩; exact Or.inr ⟨q.1, q.2.1⟩
      refine r_if_eq (Y := YX8_weighed) (tgt := 52) dX8_weighed_36 (by decide) (fun c36 => ?_) (fun c36 => ?_) 
      · refine r_bipush (Y := YX8_weighed) dX8_weighed_52 ?_
        refine r_ireturn (Y := YX8_weighed) dX8_weighed_54 ?_
        unfold weighF
        (repeat (first | rw [if_pos (by omega)] | rw [if_neg (by omega)]))
        rcases h33 with q | q
        · first | omega | exact ⟨rfl, hX.we q.2.2 f33, fun k i b => f33 k i (by omega)⟩
        · first | omega | exact ⟨rfl, hX.we q.2.2 f33, fun k i b => f33 k i (by omega)⟩
      · refine r_aload_n (Y := YX8_weighed) dX8_weighed_39 rfl ?_
        refine r_getR (Y := YX8_weighed) (δz := 3) fl_X8_19 dX8_weighed_40 rfl rfl ?_
        refine r_getR (Y := YX8_weighed) (δz := 27) fl_X8_188 dX8_weighed_43 rfl rfl ?_
        refine r_getV (Y := YX8_weighed) (v := (G.1.2.2.length : Int) + 1) (jz := 2) fl_X8_162 dX8_weighed_46 ((by rcases h33 with q | q; (have := q.2.2.1; rw [List.length_append] at this; exact this); omega)) ?_
        refine r_goto (Y := YX8_weighed) (tgt := 54) dX8_weighed_49 (by decide) ?_
        refine r_ireturn (Y := YX8_weighed) dX8_weighed_54 ?_
        unfold weighF
        (repeat (first | rw [if_pos (by omega)] | rw [if_neg (by omega)]))
        rcases h33 with q | q
        · first | omega | exact ⟨rfl, hX.we q.2.2 f33, fun k i b => f33 k i (by omega)⟩
        · first | omega | exact ⟨rfl, hX.we q.2.2 f33, fun k i b => f33 k i (by omega)⟩
    · refine r_bipush (Y := YX8_weighed) dX8_weighed_21 ?_
      refine r_ireturn (Y := YX8_weighed) dX8_weighed_23 ?_
      unfold weighF
      (repeat (first | rw [if_pos (by omega)] | rw [if_neg (by omega)]))
      exact ⟨rfl, hX, fun _ _ _ => rfl⟩
set_option maxRecDepth 20000 in
theorem c_X8_drop {σ : ab_S} {x : Int} {G : GS} (hx : kd_ x 8 8) (hX : HX σ x G) (hG : OKG G)  : C2 YX8_drop 1 σ [rf x] (PI fun σ' z => z = (dropF G).1 ∧ HX σ' x (dropF G).2 ∧ FX σ σ' x) := by
  obtain ⟨k1, k2, k3, k4, k5, k6, k7, k8⟩ := kd_hb hx
  obtain ⟨w1, w2, w3⟩ := kd_whole k2
  obtain ⟨a1, a2, a3, a4, a5, a6⟩ := kd_abbey w1
  have hA := hX.1.1
  have hW := hG.1.1.1
  have hWL := hG.1.1.2
  refine C2.of (by decide +kernel) (Nat.le_of_ble_eq_true rfl) ?_
  refine r_aload_n (Y := YX8_drop) dX8_drop_0 rfl ?_
  refine r_getR (Y := YX8_drop) (δz := 3) fl_X8_19 dX8_drop_1 rfl rfl ?_
  refine r_getR (Y := YX8_drop) (δz := 24) fl_X8_153 dX8_drop_4 rfl rfl ?_
  refine r_iV0I (Y := YX8_drop) mv_X8_163 dX8_drop_7 (c_X3_clear w2 hX.1.2.1 hWL.1) (by assumption) (fun σ7 z7 h7 => ?_)
  obtain ⟨rfl, q1, q2⟩ := h7
  refine r_ireturn (Y := YX8_drop) dX8_drop_10 ?_
  exact ⟨rfl, hX.lo q1 q2, fun k i b => q2 k i (by omega)⟩
set_option maxRecDepth 20000 in
theorem c_X8_forget {σ : ab_S} {x : Int} {G : GS} (hx : kd_ x 8 8) (hX : HX σ x G) (hG : OKG G)  : C2 YX8_forget 1 σ [rf x] (PI fun σ' z => z = (forgetF G).1 ∧ HX σ' x (forgetF G).2 ∧ FX σ σ' x) := by
  obtain ⟨k1, k2, k3, k4, k5, k6, k7, k8⟩ := kd_hb hx
  obtain ⟨w1, w2, w3⟩ := kd_whole k2
  obtain ⟨a1, a2, a3, a4, a5, a6⟩ := kd_abbey w1
  have hA := hX.1.1
  have hW := hG.1.1.1
  have hWL := hG.1.1.2
  refine C2.of (by decide +kernel) (Nat.le_of_ble_eq_true rfl) ?_
  refine r_aload_n (Y := YX8_forget) dX8_forget_0 rfl ?_
  refine r_getR (Y := YX8_forget) (δz := 3) fl_X8_19 dX8_forget_1 rfl rfl ?_
  refine r_getR (Y := YX8_forget) (δz := 27) fl_X8_188 dX8_forget_4 rfl rfl ?_
  refine r_iV0I (Y := YX8_forget) mv_X8_163 dX8_forget_7 (c_X3_clear w3 hX.1.2.2 hWL.2) (by assumption) (fun σ7 z7 h7 => ?_)
  obtain ⟨rfl, q1, q2⟩ := h7
  refine r_ireturn (Y := YX8_forget) dX8_forget_10 ?_
  exact ⟨rfl, hX.we q1 q2, fun k i b => q2 k i (by omega)⟩
