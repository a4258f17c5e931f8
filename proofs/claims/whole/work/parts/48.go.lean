/-! the model: a text gone through, and its judge -/
theorem drop_at {xs : List Int} {i : Nat} {c : Int} {r : List Int} (h : xs.drop i = c :: r) : xs[i]? = some c ∧ xs.drop (i + 1) = r ∧ i < xs.length := by
  have h1 : xs[i]? = some c := by
    have := congrArg List.head? h
    rwa [List.head?_drop] at this
  refine ⟨h1, ?_, (List.getElem?_eq_some_iff.mp h1).1⟩
  have := congrArg List.tail h
  rwa [List.tail_drop] at this
theorem nz_bd {v : Int} (h1 : 0 ≤ v) (h2 : v ≤ 5) : (v = 0 ∧ nz v = -6) ∨ (¬ v = 0 ∧ nz v = v ∧ 1 ≤ v ∧ v ≤ 5) := by
  unfold nz
  by_cases e : v = 0
  · rw [if_pos e]; exact Or.inl ⟨e, rfl⟩
  · rw [if_neg e]; exact Or.inr ⟨e, rfl, by omega, h2⟩
set_option maxRecDepth 20000 in
theorem c_X9_goText {σ : ab_S} {m : Int} {xs : List Int} {B0 : AB} (hm : kd_ m 9 37) (hA : MM σ m B0) (hW : WA B0) (hP : HP σ m xs) (hD : WD xs) (hf : fault xs = -6) : C2 YX9_goText 4 σ [rf m] (PI fun σ' z => z = (if (follow xs B0).2.1 = 0 then 1 else 0) ∧ σ' m 26 = (follow xs B0).1 ∧ σ' m 27 = nz (follow xs B0).2.1 ∧ MT σ' m (follow xs B0).2.2 ∧ FG σ σ' m) := by
  obtain ⟨k1, k2, k3, k4, k5, k6, k7, k8, k9, k10, k11, k12, k13, k14, k15, k16, k17, k18, k19, k20, k21, k22, k23, k24, k25, k26⟩ := kd_model hm
  have hL := hD.1
  refine C2.of (by decide +kernel) (Nat.le_of_ble_eq_true rfl) ?_
  refine r_aload_n (Y := YX9_goText) dX9_goText_0 rfl ?_
  refine r_iV0V (Y := YX9_goText) mv_X9_159 dX9_goText_1 (c_layNow hm hA hW) (by assumption) (fun σ1 h1 => ?_)
  obtain ⟨t1, t2⟩ := h1
  refine r_aload_n (Y := YX9_goText) dX9_goText_4 rfl ?_
  refine r_iconst (Y := YX9_goText) dX9_goText_5 ?_
  refine r_putI (Y := YX9_goText) (jz := 26) fp_X9_162 dX9_goText_6 ?_
  refine r_aload_n (Y := YX9_goText) dX9_goText_9 rfl ?_
  refine r_bipush (Y := YX9_goText) dX9_goText_10 ?_
  refine r_putI (Y := YX9_goText) (jz := 27) fp_X9_165 dX9_goText_12 ?_
  refine r_iconst (Y := YX9_goText) dX9_goText_15 ?_
  refine r_istore_n (Y := YX9_goText) dX9_goText_16 ?_
  suffices hloop : ∀ (n : Nat) (rest : List Int) (i : Nat) (p : Int) (B : AB) (τ : ab_S), rest.length ≤ n → xs.drop i = rest → i ≤ xs.length → fltL 0 i rest = -6 → folS rest 0 0 0 p B = follow xs B0 → MT τ m B → WA B → τ m 26 = p → 0 ≤ p → p ≤ 1000 * (i + 1) → τ m 27 = -6 → FG σ τ m → R2 YX9_goText 4 τ 17 [some (rf m), some (iv i)] [] (PI fun σ' z => z = (if (follow xs B0).2.1 = 0 then 1 else 0) ∧ σ' m 26 = (follow xs B0).1 ∧ σ' m 27 = nz (follow xs B0).2.1 ∧ MT σ' m (follow xs B0).2.2 ∧ FG σ σ' m) from
    R2.weak (by repeat first | exact trivial | refine And.intro rfl ?_) (hloop xs.length xs 0 0 B0 _ (Nat.le_refl _) rfl (by omega) hf rfl (t1.kept (fun k i b => by (try delta up); (try delta cpy); (try dsimp only); repeat (first | rw [if_pos (by omega)] | rw [if_neg (by omega)]); try (first | rfl | assumption | omega))) hW (by (try delta up); (try delta cpy); (try dsimp only); repeat (first | rw [if_pos (by omega)] | rw [if_neg (by omega)]); try (first | rfl | assumption | omega)) (by omega) (by omega) (by (try delta up); (try delta cpy); (try dsimp only); repeat (first | rw [if_pos (by omega)] | rw [if_neg (by omega)]); try (first | rfl | assumption | omega)) (fun k i a b => by rw [← t2 k i a (by omega)]; exact (by (try delta up); (try delta cpy); (try dsimp only); repeat (first | rw [if_pos (by omega)] | rw [if_neg (by omega)]); try (first | rfl | assumption | omega))))
  intro n
  induction n with
  | zero =>
    intro rest i p B τ g1 g2 g3 g4 g5 g6 g7 g8 g9 g10 g11 hF
    have g12 : rest = [] := List.eq_nil_of_length_eq_zero (by omega)
    subst g12
    have g13 : xs.length ≤ i := List.drop_eq_nil_iff.mp g2
    have hPt : HP τ m xs := hP.kept (fun k i b => hF k i (by omega) (by omega))
    refine r_iload_n (Y := YX9_goText) dX9_goText_17 rfl ?_
    refine r_aload_n (Y := YX9_goText) dX9_goText_18 rfl ?_
    refine r_getV (Y := YX9_goText) (v := (xs.length : Int)) (jz := 25) fl_X9_130 dX9_goText_19 (hPt.1) ?_
    refine r_icmp_ge (Y := YX9_goText) (tgt := 100) dX9_goText_22 (by decide) (fun c22 => ?_) (fun c22 => absurd c22 (by omega)) 
    refine r_iconst (Y := YX9_goText) dX9_goText_100 ?_
    refine r_zreturn (Y := YX9_goText) dX9_goText_101 (by decide) ?_
    rw [← g5]
    refine ⟨?_, g8, g11, g6, hF⟩
    rfl
  | succ n ih =>
    intro rest i p B τ g1 g2 g3 g4 g5 g6 g7 g8 g9 g10 g11 hF
    have hPt : HP τ m xs := hP.kept (fun k i b => hF k i (by omega) (by omega))
    rcases flt_split (by omega) g4 with q | ⟨r, q1, q2⟩ | ⟨c, d, r, q1, q2, q3, q4, q5, q6⟩ | ⟨c, d, s, r, q1, q2, q3, q4, q5, q6, q7⟩
    · subst q
      have g13 : xs.length ≤ i := List.drop_eq_nil_iff.mp g2
      refine r_iload_n (Y := YX9_goText) dX9_goText_17 rfl ?_
      refine r_aload_n (Y := YX9_goText) dX9_goText_18 rfl ?_
      refine r_getV (Y := YX9_goText) (v := (xs.length : Int)) (jz := 25) fl_X9_130 dX9_goText_19 (hPt.1) ?_
      refine r_icmp_ge (Y := YX9_goText) (tgt := 100) dX9_goText_22 (by decide) (fun c22 => ?_) (fun c22 => absurd c22 (by omega)) 
      refine r_iconst (Y := YX9_goText) dX9_goText_100 ?_
      refine r_zreturn (Y := YX9_goText) dX9_goText_101 (by decide) ?_
      rw [← g5]
      refine ⟨?_, g8, g11, g6, hF⟩
      rfl
    · subst q1
      obtain ⟨x1, x2, x3⟩ := drop_at g2
      rw [fol_week] at g5
      rw [List.length_cons] at g1
      have hv0 := hPt.2 i 46 x1
      refine r_iload_n (Y := YX9_goText) dX9_goText_17 rfl ?_
      refine r_aload_n (Y := YX9_goText) dX9_goText_18 rfl ?_
      refine r_getV (Y := YX9_goText) (v := (xs.length : Int)) (jz := 25) fl_X9_130 dX9_goText_19 (hPt.1) ?_
      refine r_icmp_ge (Y := YX9_goText) (tgt := 100) dX9_goText_22 (by decide) (fun c22 => absurd c22 (by omega)) (fun c22 => ?_) 
      refine r_aload_n (Y := YX9_goText) dX9_goText_25 rfl ?_
      refine r_aload_n (Y := YX9_goText) dX9_goText_26 rfl ?_
      refine r_iload_n (Y := YX9_goText) dX9_goText_27 rfl ?_
      refine r_iV1I (Y := YX9_goText) mv_X9_168 dX9_goText_28 (c_X9_does_week hm g6 g7 hPt hD x1 rfl) (by assumption) (fun σ28 z28 h28 => ?_)
      obtain ⟨rfl, b1, b2⟩ := h28
      refine r_putI (Y := YX9_goText) (jz := 27) fp_X9_165 dX9_goText_31 ?_
      refine r_aload_n (Y := YX9_goText) dX9_goText_34 rfl ?_
      refine r_getV (Y := YX9_goText) (v := (-6)) (jz := 27) fl_X9_165 dX9_goText_35 (up_same _ _ _ _) ?_
      refine r_if_lt (Y := YX9_goText) (tgt := 43) dX9_goText_38 (by decide) (fun c38 => ?_) (fun c38 => absurd c38 (by omega)) 
      refine r_aload_n (Y := YX9_goText) dX9_goText_43 rfl ?_
      refine r_dup (Y := YX9_goText) dX9_goText_44 ?_
      refine r_getV (Y := YX9_goText) (v := p) (jz := 26) fl_X9_162 dX9_goText_45 ((by rw [← g8, ← b2 m 26 (by omega) (by omega)]; exact (by (try delta up); (try delta cpy); (try dsimp only); repeat (first | rw [if_pos (by omega)] | rw [if_neg (by omega)]); try (first | rfl | assumption | omega)))) ?_
      refine r_iconst (Y := YX9_goText) dX9_goText_48 ?_
      refine r_iadd (Y := YX9_goText) dX9_goText_49 ?_
      refine r_putI (Y := YX9_goText) (jz := 26) fp_X9_162 dX9_goText_50 ?_
      refine r_iload_n (Y := YX9_goText) dX9_goText_53 rfl ?_
      refine r_aload_n (Y := YX9_goText) dX9_goText_54 rfl ?_
      refine r_getR (Y := YX9_goText) (δz := 20) fl_X9_67 dX9_goText_55 rfl rfl ?_
      refine r_iload_n (Y := YX9_goText) dX9_goText_58 rfl ?_
      refine r_iaV (Y := YX9_goText) (v := 46) dX9_goText_59 ((Eq.trans (b := τ (m + 20) (i)) ((by (try delta up); (try delta cpy); (try dsimp only); repeat (first | rw [if_pos (by omega)] | rw [if_neg (by omega)]); try (first | rfl | assumption | omega) : _ = σ28 (m + 20) (i)).trans (b2 _ _ (by omega) (by omega))) hv0)) ?_
      refine r_bipush (Y := YX9_goText) dX9_goText_60 ?_
      refine r_icmp_ne (Y := YX9_goText) (tgt := 69) dX9_goText_62 (by decide) (fun c62 => absurd c62 (by omega)) (fun c62 => ?_) 
      refine r_iconst (Y := YX9_goText) dX9_goText_65 ?_
      refine r_goto (Y := YX9_goText) (tgt := 95) dX9_goText_66 (by decide) ?_
      refine r_iadd (Y := YX9_goText) dX9_goText_95 ?_
      refine r_istore_n (Y := YX9_goText) dX9_goText_96 ?_
      refine r_goto (Y := YX9_goText) (tgt := 17) dX9_goText_97 (by decide) ?_
      have hFG : FG σ (up (up σ28 m 27 (-6)) m 26 (p + 1)) m := fun k i a b => by rw [← hF k i a b, ← b2 k i a (by omega)]; exact (by (try delta up); (try delta cpy); (try dsimp only); repeat (first | rw [if_pos (by omega)] | rw [if_neg (by omega)]); try (first | rfl | assumption | omega))
      have hMT : MT (up (up σ28 m 27 (-6)) m 26 (p + 1)) m (weekA B) := b1.kept (fun k i b => by (try delta up); (try delta cpy); (try dsimp only); repeat (first | rw [if_pos (by omega)] | rw [if_neg (by omega)]); try (first | rfl | assumption | omega))
      have h27 : up (up σ28 m 27 (-6)) m 26 (p + 1) m 27 = -6 := by (try delta up); (try delta cpy); (try dsimp only); repeat (first | rw [if_pos (by omega)] | rw [if_neg (by omega)]); try (first | rfl | assumption | omega)
      exact R2.weak (by repeat first | exact trivial | refine And.intro rfl ?_) (ih r (i + 1) (p + 1) (weekA B) _ (by omega) x2 (by omega) q2 g5 hMT (WA_weekA g7) (up_same _ _ _ _) (by omega) (by omega) h27 hFG)
    · subst q1
      obtain ⟨x1, x2, x3⟩ := drop_at g2
      obtain ⟨x4, x9, x6⟩ := drop_at x2
      rw [List.length_cons, List.length_cons] at g1
      have hv0 := hPt.2 i c x1
      have hv1 := hPt.2 (i + 1) d x4
      rw [show ((i + 1 : Nat) : Int) = (i : Int) + 1 by omega] at hv1
      rw [fol_weave q2 q4 q5] at g5
      have hzb := nz_bd (weaveZ_bd B (c - 65) (d - 48)).1 (weaveZ_bd B (c - 65) (d - 48)).2
      rcases hzb with ⟨hz1, hz2⟩ | ⟨hz1, hz2, hz3, hz4⟩
      · refine r_iload_n (Y := YX9_goText) dX9_goText_17 rfl ?_
        refine r_aload_n (Y := YX9_goText) dX9_goText_18 rfl ?_
        refine r_getV (Y := YX9_goText) (v := (xs.length : Int)) (jz := 25) fl_X9_130 dX9_goText_19 (hPt.1) ?_
        refine r_icmp_ge (Y := YX9_goText) (tgt := 100) dX9_goText_22 (by decide) (fun c22 => absurd c22 (by omega)) (fun c22 => ?_) 
        refine r_aload_n (Y := YX9_goText) dX9_goText_25 rfl ?_
        refine r_aload_n (Y := YX9_goText) dX9_goText_26 rfl ?_
        refine r_iload_n (Y := YX9_goText) dX9_goText_27 rfl ?_
        refine r_iV1I (Y := YX9_goText) mv_X9_168 dX9_goText_28 (c_X9_does_weave hm g6 g7 hPt hD x1 q2 q3 x4 q4 q5) (by assumption) (fun σ28 z28 h28 => ?_)
        obtain ⟨z28e, b1, b2⟩ := h28
        rw [hz2] at z28e
        subst z28e
        refine r_putI (Y := YX9_goText) (jz := 27) fp_X9_165 dX9_goText_31 ?_
        refine r_aload_n (Y := YX9_goText) dX9_goText_34 rfl ?_
        refine r_getV (Y := YX9_goText) (v := (-6)) (jz := 27) fl_X9_165 dX9_goText_35 (up_same _ _ _ _) ?_
        refine r_if_lt (Y := YX9_goText) (tgt := 43) dX9_goText_38 (by decide) (fun c38 => ?_) (fun c38 => absurd c38 (by omega)) 
        refine r_aload_n (Y := YX9_goText) dX9_goText_43 rfl ?_
        refine r_dup (Y := YX9_goText) dX9_goText_44 ?_
        refine r_getV (Y := YX9_goText) (v := p) (jz := 26) fl_X9_162 dX9_goText_45 ((by rw [← g8, ← b2 m 26 (by omega) (by omega)]; exact (by (try delta up); (try delta cpy); (try dsimp only); repeat (first | rw [if_pos (by omega)] | rw [if_neg (by omega)]); try (first | rfl | assumption | omega)))) ?_
        refine r_iconst (Y := YX9_goText) dX9_goText_48 ?_
        refine r_iadd (Y := YX9_goText) dX9_goText_49 ?_
        refine r_putI (Y := YX9_goText) (jz := 26) fp_X9_162 dX9_goText_50 ?_
        refine r_iload_n (Y := YX9_goText) dX9_goText_53 rfl ?_
        refine r_aload_n (Y := YX9_goText) dX9_goText_54 rfl ?_
        refine r_getR (Y := YX9_goText) (δz := 20) fl_X9_67 dX9_goText_55 rfl rfl ?_
        refine r_iload_n (Y := YX9_goText) dX9_goText_58 rfl ?_
        refine r_iaV (Y := YX9_goText) (v := c) dX9_goText_59 ((Eq.trans (b := τ (m + 20) (i)) ((by (try delta up); (try delta cpy); (try dsimp only); repeat (first | rw [if_pos (by omega)] | rw [if_neg (by omega)]); try (first | rfl | assumption | omega) : _ = σ28 (m + 20) (i)).trans (b2 _ _ (by omega) (by omega))) hv0)) ?_
        refine r_bipush (Y := YX9_goText) dX9_goText_60 ?_
        refine r_icmp_ne (Y := YX9_goText) (tgt := 69) dX9_goText_62 (by decide) (fun c62 => ?_) (fun c62 => absurd c62 (by omega)) 
        refine r_aload_n (Y := YX9_goText) dX9_goText_69 rfl ?_
        refine r_getR (Y := YX9_goText) (δz := 20) fl_X9_67 dX9_goText_70 rfl rfl ?_
        refine r_iload_n (Y := YX9_goText) dX9_goText_73 rfl ?_
        refine r_iconst (Y := YX9_goText) dX9_goText_74 ?_
        refine r_iadd (Y := YX9_goText) dX9_goText_75 ?_
        refine r_iaV (Y := YX9_goText) (v := d) dX9_goText_76 ((Eq.trans (b := τ (m + 20) ((i : Int) + 1)) ((by (try delta up); (try delta cpy); (try dsimp only); repeat (first | rw [if_pos (by omega)] | rw [if_neg (by omega)]); try (first | rfl | assumption | omega) : _ = σ28 (m + 20) ((i : Int) + 1)).trans (b2 _ _ (by omega) (by omega))) hv1)) ?_
        refine r_i2l (Y := YX9_goText) dX9_goText_77 ?_
        refine r_ldc2 (Y := YX9_goText) (z := 48) wc_X9_137 dX9_goText_78 (by decide) ?_
        refine r_ldc2 (Y := YX9_goText) (z := 51) wc_X9_139 dX9_goText_81 (by decide) ?_
        refine r_iS3I (Y := YX9_goText) ms_X9_95 dX9_goText_84 (c_in (by omega) (by omega) (by omega) (by omega) (by omega) (by omega)) (fun σ84 z84 h84 => ?_)
        obtain ⟨rfl, h84⟩ := h84
        refine r_if_eq (Y := YX9_goText) (tgt := 94) dX9_goText_87 (by decide) (fun c87 => ?_) (fun c87 => ?_) 
        · refine r_iconst (Y := YX9_goText) dX9_goText_94 ?_
          refine r_iadd (Y := YX9_goText) dX9_goText_95 ?_
          refine r_istore_n (Y := YX9_goText) dX9_goText_96 ?_
          refine r_goto (Y := YX9_goText) (tgt := 17) dX9_goText_97 (by decide) ?_
          first
            | (exfalso; omega)
            | skip
          all_goals (have hFG : FG σ (up (up σ28 m 27 (-6)) m 26 (p + 1)) m := fun k i a b => by rw [← hF k i a b, ← b2 k i a (by omega)]; exact (by (try delta up); (try delta cpy); (try dsimp only); repeat (first | rw [if_pos (by omega)] | rw [if_neg (by omega)]); try (first | rfl | assumption | omega)))
          all_goals (have hMT : MT (up (up σ28 m 27 (-6)) m 26 (p + 1)) m (weaveR B (c - 65) (d - 48)) := b1.kept (fun k i b => by (try delta up); (try delta cpy); (try dsimp only); repeat (first | rw [if_pos (by omega)] | rw [if_neg (by omega)]); try (first | rfl | assumption | omega)))
          all_goals (have h27 : up (up σ28 m 27 (-6)) m 26 (p + 1) m 27 = -6 := by (try delta up); (try delta cpy); (try dsimp only); repeat (first | rw [if_pos (by omega)] | rw [if_neg (by omega)]); try (first | rfl | assumption | omega))
          all_goals (rw [if_pos hz1] at g5)
          all_goals (exact R2.weak (by repeat first | exact trivial | refine And.intro rfl ?_) (ih r (i + 2) (p + 1) (weaveR B (c - 65) (d - 48)) _ (by omega) x9 (by omega) q6 g5 hMT (WA_weaveR g7 (by omega) (by omega) (by omega) (by omega)) (up_same _ _ _ _) (by omega) (by omega) h27 hFG))
        · refine r_iconst (Y := YX9_goText) dX9_goText_90 ?_
          refine r_goto (Y := YX9_goText) (tgt := 95) dX9_goText_91 (by decide) ?_
          refine r_iadd (Y := YX9_goText) dX9_goText_95 ?_
          refine r_istore_n (Y := YX9_goText) dX9_goText_96 ?_
          refine r_goto (Y := YX9_goText) (tgt := 17) dX9_goText_97 (by decide) ?_
          first
            | (exfalso; omega)
            | skip
          all_goals (have hFG : FG σ (up (up σ28 m 27 (-6)) m 26 (p + 1)) m := fun k i a b => by rw [← hF k i a b, ← b2 k i a (by omega)]; exact (by (try delta up); (try delta cpy); (try dsimp only); repeat (first | rw [if_pos (by omega)] | rw [if_neg (by omega)]); try (first | rfl | assumption | omega)))
          all_goals (have hMT : MT (up (up σ28 m 27 (-6)) m 26 (p + 1)) m (weaveR B (c - 65) (d - 48)) := b1.kept (fun k i b => by (try delta up); (try delta cpy); (try dsimp only); repeat (first | rw [if_pos (by omega)] | rw [if_neg (by omega)]); try (first | rfl | assumption | omega)))
          all_goals (have h27 : up (up σ28 m 27 (-6)) m 26 (p + 1) m 27 = -6 := by (try delta up); (try delta cpy); (try dsimp only); repeat (first | rw [if_pos (by omega)] | rw [if_neg (by omega)]); try (first | rfl | assumption | omega))
          all_goals (rw [if_pos hz1] at g5)
          all_goals (exact R2.weak (by repeat first | exact trivial | refine And.intro rfl ?_) (ih r (i + 2) (p + 1) (weaveR B (c - 65) (d - 48)) _ (by omega) x9 (by omega) q6 g5 hMT (WA_weaveR g7 (by omega) (by omega) (by omega) (by omega)) (up_same _ _ _ _) (by omega) (by omega) h27 hFG))
      · refine r_iload_n (Y := YX9_goText) dX9_goText_17 rfl ?_
        refine r_aload_n (Y := YX9_goText) dX9_goText_18 rfl ?_
        refine r_getV (Y := YX9_goText) (v := (xs.length : Int)) (jz := 25) fl_X9_130 dX9_goText_19 (hPt.1) ?_
        refine r_icmp_ge (Y := YX9_goText) (tgt := 100) dX9_goText_22 (by decide) (fun c22 => absurd c22 (by omega)) (fun c22 => ?_) 
        refine r_aload_n (Y := YX9_goText) dX9_goText_25 rfl ?_
        refine r_aload_n (Y := YX9_goText) dX9_goText_26 rfl ?_
        refine r_iload_n (Y := YX9_goText) dX9_goText_27 rfl ?_
        refine r_iV1I (Y := YX9_goText) mv_X9_168 dX9_goText_28 (c_X9_does_weave hm g6 g7 hPt hD x1 q2 q3 x4 q4 q5) (by assumption) (fun σ28 z28 h28 => ?_)
        obtain ⟨z28e, b1, b2⟩ := h28
        rw [hz2] at z28e
        subst z28e
        rw [weave_no hz1] at b1
        refine r_putI (Y := YX9_goText) (jz := 27) fp_X9_165 dX9_goText_31 ?_
        refine r_aload_n (Y := YX9_goText) dX9_goText_34 rfl ?_
        refine r_getV (Y := YX9_goText) (v := weaveZ B (c - 65) (d - 48)) (jz := 27) fl_X9_165 dX9_goText_35 (up_same _ _ _ _) ?_
        refine r_if_lt (Y := YX9_goText) (tgt := 43) dX9_goText_38 (by decide) (fun c38 => absurd c38 (by omega)) (fun c38 => ?_) 
        refine r_iconst (Y := YX9_goText) dX9_goText_41 ?_
        refine r_zreturn (Y := YX9_goText) dX9_goText_42 (by decide) ?_
        rw [if_neg hz1] at g5
        rw [← g5]
        refine ⟨?_, ?_, ?_, b1.kept (fun k i b => by (try delta up); (try delta cpy); (try dsimp only); repeat (first | rw [if_pos (by omega)] | rw [if_neg (by omega)]); try (first | rfl | assumption | omega)), fun k i a b => by rw [← hF k i a b, ← b2 k i a (by omega)]; exact (by (try delta up); (try delta cpy); (try dsimp only); repeat (first | rw [if_pos (by omega)] | rw [if_neg (by omega)]); try (first | rfl | assumption | omega))⟩
        · show (0 : Int) = if weaveZ B (c - 65) (d - 48) = 0 then 1 else 0
          rw [if_neg hz1]
        · show _ = p
          rw [← g8, ← b2 m 26 (by omega) (by omega)]; exact (by (try delta up); (try delta cpy); (try dsimp only); repeat (first | rw [if_pos (by omega)] | rw [if_neg (by omega)]); try (first | rfl | assumption | omega))
        · show _ = nz (weaveZ B (c - 65) (d - 48))
          rw [hz2]; exact up_same _ _ _ _
    · subst q1
      obtain ⟨x1, x2, x3⟩ := drop_at g2
      obtain ⟨x4, x5, x6⟩ := drop_at x2
      obtain ⟨x7, x9, x8⟩ := drop_at x5
      rw [List.length_cons, List.length_cons, List.length_cons] at g1
      have hv0 := hPt.2 i c x1
      have hv1 := hPt.2 (i + 1) d x4
      rw [show ((i + 1 : Nat) : Int) = (i : Int) + 1 by omega] at hv1
      rcases q4 with q4 | q4
      · subst q4
        rw [fol_sin q2] at g5
        have hzb := nz_bd (sinZ_bd B (c - 65) (s - 48)).1 (sinZ_bd B (c - 65) (s - 48)).2
        rcases hzb with ⟨hz1, hz2⟩ | ⟨hz1, hz2, hz3, hz4⟩
        · refine r_iload_n (Y := YX9_goText) dX9_goText_17 rfl ?_
          refine r_aload_n (Y := YX9_goText) dX9_goText_18 rfl ?_
          refine r_getV (Y := YX9_goText) (v := (xs.length : Int)) (jz := 25) fl_X9_130 dX9_goText_19 (hPt.1) ?_
          refine r_icmp_ge (Y := YX9_goText) (tgt := 100) dX9_goText_22 (by decide) (fun c22 => absurd c22 (by omega)) (fun c22 => ?_) 
          refine r_aload_n (Y := YX9_goText) dX9_goText_25 rfl ?_
          refine r_aload_n (Y := YX9_goText) dX9_goText_26 rfl ?_
          refine r_iload_n (Y := YX9_goText) dX9_goText_27 rfl ?_
          refine r_iV1I (Y := YX9_goText) mv_X9_168 dX9_goText_28 (c_X9_does_sin hm g6 g7 hPt hD x1 q2 q3 x4 x7 q5 q6 rfl) (by assumption) (fun σ28 z28 h28 => ?_)
          obtain ⟨z28e, b1, b2⟩ := h28
          rw [hz2] at z28e
          subst z28e
          refine r_putI (Y := YX9_goText) (jz := 27) fp_X9_165 dX9_goText_31 ?_
          refine r_aload_n (Y := YX9_goText) dX9_goText_34 rfl ?_
          refine r_getV (Y := YX9_goText) (v := (-6)) (jz := 27) fl_X9_165 dX9_goText_35 (up_same _ _ _ _) ?_
          refine r_if_lt (Y := YX9_goText) (tgt := 43) dX9_goText_38 (by decide) (fun c38 => ?_) (fun c38 => absurd c38 (by omega)) 
          refine r_aload_n (Y := YX9_goText) dX9_goText_43 rfl ?_
          refine r_dup (Y := YX9_goText) dX9_goText_44 ?_
          refine r_getV (Y := YX9_goText) (v := p) (jz := 26) fl_X9_162 dX9_goText_45 ((by rw [← g8, ← b2 m 26 (by omega) (by omega)]; exact (by (try delta up); (try delta cpy); (try dsimp only); repeat (first | rw [if_pos (by omega)] | rw [if_neg (by omega)]); try (first | rfl | assumption | omega)))) ?_
          refine r_iconst (Y := YX9_goText) dX9_goText_48 ?_
          refine r_iadd (Y := YX9_goText) dX9_goText_49 ?_
          refine r_putI (Y := YX9_goText) (jz := 26) fp_X9_162 dX9_goText_50 ?_
          refine r_iload_n (Y := YX9_goText) dX9_goText_53 rfl ?_
          refine r_aload_n (Y := YX9_goText) dX9_goText_54 rfl ?_
          refine r_getR (Y := YX9_goText) (δz := 20) fl_X9_67 dX9_goText_55 rfl rfl ?_
          refine r_iload_n (Y := YX9_goText) dX9_goText_58 rfl ?_
          refine r_iaV (Y := YX9_goText) (v := c) dX9_goText_59 ((Eq.trans (b := τ (m + 20) (i)) ((by (try delta up); (try delta cpy); (try dsimp only); repeat (first | rw [if_pos (by omega)] | rw [if_neg (by omega)]); try (first | rfl | assumption | omega) : _ = σ28 (m + 20) (i)).trans (b2 _ _ (by omega) (by omega))) hv0)) ?_
          refine r_bipush (Y := YX9_goText) dX9_goText_60 ?_
          refine r_icmp_ne (Y := YX9_goText) (tgt := 69) dX9_goText_62 (by decide) (fun c62 => ?_) (fun c62 => absurd c62 (by omega)) 
          refine r_aload_n (Y := YX9_goText) dX9_goText_69 rfl ?_
          refine r_getR (Y := YX9_goText) (δz := 20) fl_X9_67 dX9_goText_70 rfl rfl ?_
          refine r_iload_n (Y := YX9_goText) dX9_goText_73 rfl ?_
          refine r_iconst (Y := YX9_goText) dX9_goText_74 ?_
          refine r_iadd (Y := YX9_goText) dX9_goText_75 ?_
          refine r_iaV (Y := YX9_goText) (v := 43) dX9_goText_76 ((Eq.trans (b := τ (m + 20) ((i : Int) + 1)) ((by (try delta up); (try delta cpy); (try dsimp only); repeat (first | rw [if_pos (by omega)] | rw [if_neg (by omega)]); try (first | rfl | assumption | omega) : _ = σ28 (m + 20) ((i : Int) + 1)).trans (b2 _ _ (by omega) (by omega))) hv1)) ?_
          refine r_i2l (Y := YX9_goText) dX9_goText_77 ?_
          refine r_ldc2 (Y := YX9_goText) (z := 48) wc_X9_137 dX9_goText_78 (by decide) ?_
          refine r_ldc2 (Y := YX9_goText) (z := 51) wc_X9_139 dX9_goText_81 (by decide) ?_
          refine r_iS3I (Y := YX9_goText) ms_X9_95 dX9_goText_84 (c_in (by omega) (by omega) (by omega) (by omega) (by omega) (by omega)) (fun σ84 z84 h84 => ?_)
          obtain ⟨rfl, h84⟩ := h84
          refine r_if_eq (Y := YX9_goText) (tgt := 94) dX9_goText_87 (by decide) (fun c87 => ?_) (fun c87 => ?_) 
          · refine r_iconst (Y := YX9_goText) dX9_goText_94 ?_
            refine r_iadd (Y := YX9_goText) dX9_goText_95 ?_
            refine r_istore_n (Y := YX9_goText) dX9_goText_96 ?_
            refine r_goto (Y := YX9_goText) (tgt := 17) dX9_goText_97 (by decide) ?_
            first
              | (exfalso; omega)
              | skip
            all_goals (have hFG : FG σ (up (up σ28 m 27 (-6)) m 26 (p + 1)) m := fun k i a b => by rw [← hF k i a b, ← b2 k i a (by omega)]; exact (by (try delta up); (try delta cpy); (try dsimp only); repeat (first | rw [if_pos (by omega)] | rw [if_neg (by omega)]); try (first | rfl | assumption | omega)))
            all_goals (have hMT : MT (up (up σ28 m 27 (-6)) m 26 (p + 1)) m (sinR B (c - 65) (s - 48)) := b1.kept (fun k i b => by (try delta up); (try delta cpy); (try dsimp only); repeat (first | rw [if_pos (by omega)] | rw [if_neg (by omega)]); try (first | rfl | assumption | omega)))
            all_goals (have h27 : up (up σ28 m 27 (-6)) m 26 (p + 1) m 27 = -6 := by (try delta up); (try delta cpy); (try dsimp only); repeat (first | rw [if_pos (by omega)] | rw [if_neg (by omega)]); try (first | rfl | assumption | omega))
            all_goals (rw [if_pos hz1] at g5)
            all_goals (exact R2.weak (by repeat first | exact trivial | refine And.intro rfl ?_) (ih r (i + 3) (p + 1) (sinR B (c - 65) (s - 48)) _ (by omega) x9 (by omega) q7 g5 hMT (WA_sinR g7 (by omega) (by omega) (by omega)) (up_same _ _ _ _) (by omega) (by omega) h27 hFG))
          · refine r_iconst (Y := YX9_goText) dX9_goText_90 ?_
            refine r_goto (Y := YX9_goText) (tgt := 95) dX9_goText_91 (by decide) ?_
            refine r_iadd (Y := YX9_goText) dX9_goText_95 ?_
            refine r_istore_n (Y := YX9_goText) dX9_goText_96 ?_
            refine r_goto (Y := YX9_goText) (tgt := 17) dX9_goText_97 (by decide) ?_
            first
              | (exfalso; omega)
              | skip
            all_goals (have hFG : FG σ (up (up σ28 m 27 (-6)) m 26 (p + 1)) m := fun k i a b => by rw [← hF k i a b, ← b2 k i a (by omega)]; exact (by (try delta up); (try delta cpy); (try dsimp only); repeat (first | rw [if_pos (by omega)] | rw [if_neg (by omega)]); try (first | rfl | assumption | omega)))
            all_goals (have hMT : MT (up (up σ28 m 27 (-6)) m 26 (p + 1)) m (sinR B (c - 65) (s - 48)) := b1.kept (fun k i b => by (try delta up); (try delta cpy); (try dsimp only); repeat (first | rw [if_pos (by omega)] | rw [if_neg (by omega)]); try (first | rfl | assumption | omega)))
            all_goals (have h27 : up (up σ28 m 27 (-6)) m 26 (p + 1) m 27 = -6 := by (try delta up); (try delta cpy); (try dsimp only); repeat (first | rw [if_pos (by omega)] | rw [if_neg (by omega)]); try (first | rfl | assumption | omega))
            all_goals (rw [if_pos hz1] at g5)
            all_goals (exact R2.weak (by repeat first | exact trivial | refine And.intro rfl ?_) (ih r (i + 3) (p + 1) (sinR B (c - 65) (s - 48)) _ (by omega) x9 (by omega) q7 g5 hMT (WA_sinR g7 (by omega) (by omega) (by omega)) (up_same _ _ _ _) (by omega) (by omega) h27 hFG))
        · refine r_iload_n (Y := YX9_goText) dX9_goText_17 rfl ?_
          refine r_aload_n (Y := YX9_goText) dX9_goText_18 rfl ?_
          refine r_getV (Y := YX9_goText) (v := (xs.length : Int)) (jz := 25) fl_X9_130 dX9_goText_19 (hPt.1) ?_
          refine r_icmp_ge (Y := YX9_goText) (tgt := 100) dX9_goText_22 (by decide) (fun c22 => absurd c22 (by omega)) (fun c22 => ?_) 
          refine r_aload_n (Y := YX9_goText) dX9_goText_25 rfl ?_
          refine r_aload_n (Y := YX9_goText) dX9_goText_26 rfl ?_
          refine r_iload_n (Y := YX9_goText) dX9_goText_27 rfl ?_
          refine r_iV1I (Y := YX9_goText) mv_X9_168 dX9_goText_28 (c_X9_does_sin hm g6 g7 hPt hD x1 q2 q3 x4 x7 q5 q6 rfl) (by assumption) (fun σ28 z28 h28 => ?_)
          obtain ⟨z28e, b1, b2⟩ := h28
          rw [hz2] at z28e
          subst z28e
          rw [sin_no hz1] at b1
          refine r_putI (Y := YX9_goText) (jz := 27) fp_X9_165 dX9_goText_31 ?_
          refine r_aload_n (Y := YX9_goText) dX9_goText_34 rfl ?_
          refine r_getV (Y := YX9_goText) (v := sinZ B (c - 65) (s - 48)) (jz := 27) fl_X9_165 dX9_goText_35 (up_same _ _ _ _) ?_
          refine r_if_lt (Y := YX9_goText) (tgt := 43) dX9_goText_38 (by decide) (fun c38 => absurd c38 (by omega)) (fun c38 => ?_) 
          refine r_iconst (Y := YX9_goText) dX9_goText_41 ?_
          refine r_zreturn (Y := YX9_goText) dX9_goText_42 (by decide) ?_
          rw [if_neg hz1] at g5
          rw [← g5]
          refine ⟨?_, ?_, ?_, b1.kept (fun k i b => by (try delta up); (try delta cpy); (try dsimp only); repeat (first | rw [if_pos (by omega)] | rw [if_neg (by omega)]); try (first | rfl | assumption | omega)), fun k i a b => by rw [← hF k i a b, ← b2 k i a (by omega)]; exact (by (try delta up); (try delta cpy); (try dsimp only); repeat (first | rw [if_pos (by omega)] | rw [if_neg (by omega)]); try (first | rfl | assumption | omega))⟩
          · show (0 : Int) = if sinZ B (c - 65) (s - 48) = 0 then 1 else 0
            rw [if_neg hz1]
          · show _ = p
            rw [← g8, ← b2 m 26 (by omega) (by omega)]; exact (by (try delta up); (try delta cpy); (try dsimp only); repeat (first | rw [if_pos (by omega)] | rw [if_neg (by omega)]); try (first | rfl | assumption | omega))
          · show _ = nz (sinZ B (c - 65) (s - 48))
            rw [hz2]; exact up_same _ _ _ _
      · subst q4
        rw [fol_pray q2] at g5
        have hzb := nz_bd (prayZ_bd B (c - 65) (s - 48)).1 (prayZ_bd B (c - 65) (s - 48)).2
        rcases hzb with ⟨hz1, hz2⟩ | ⟨hz1, hz2, hz3, hz4⟩
        · refine r_iload_n (Y := YX9_goText) dX9_goText_17 rfl ?_
          refine r_aload_n (Y := YX9_goText) dX9_goText_18 rfl ?_
          refine r_getV (Y := YX9_goText) (v := (xs.length : Int)) (jz := 25) fl_X9_130 dX9_goText_19 (hPt.1) ?_
          refine r_icmp_ge (Y := YX9_goText) (tgt := 100) dX9_goText_22 (by decide) (fun c22 => absurd c22 (by omega)) (fun c22 => ?_) 
          refine r_aload_n (Y := YX9_goText) dX9_goText_25 rfl ?_
          refine r_aload_n (Y := YX9_goText) dX9_goText_26 rfl ?_
          refine r_iload_n (Y := YX9_goText) dX9_goText_27 rfl ?_
          refine r_iV1I (Y := YX9_goText) mv_X9_168 dX9_goText_28 (c_X9_does_pray hm g6 g7 hPt hD x1 q2 q3 x4 x7 q5 q6 rfl) (by assumption) (fun σ28 z28 h28 => ?_)
          obtain ⟨z28e, b1, b2⟩ := h28
          rw [hz2] at z28e
          subst z28e
          refine r_putI (Y := YX9_goText) (jz := 27) fp_X9_165 dX9_goText_31 ?_
          refine r_aload_n (Y := YX9_goText) dX9_goText_34 rfl ?_
          refine r_getV (Y := YX9_goText) (v := (-6)) (jz := 27) fl_X9_165 dX9_goText_35 (up_same _ _ _ _) ?_
          refine r_if_lt (Y := YX9_goText) (tgt := 43) dX9_goText_38 (by decide) (fun c38 => ?_) (fun c38 => absurd c38 (by omega)) 
          refine r_aload_n (Y := YX9_goText) dX9_goText_43 rfl ?_
          refine r_dup (Y := YX9_goText) dX9_goText_44 ?_
          refine r_getV (Y := YX9_goText) (v := p) (jz := 26) fl_X9_162 dX9_goText_45 ((by rw [← g8, ← b2 m 26 (by omega) (by omega)]; exact (by (try delta up); (try delta cpy); (try dsimp only); repeat (first | rw [if_pos (by omega)] | rw [if_neg (by omega)]); try (first | rfl | assumption | omega)))) ?_
          refine r_iconst (Y := YX9_goText) dX9_goText_48 ?_
          refine r_iadd (Y := YX9_goText) dX9_goText_49 ?_
          refine r_putI (Y := YX9_goText) (jz := 26) fp_X9_162 dX9_goText_50 ?_
          refine r_iload_n (Y := YX9_goText) dX9_goText_53 rfl ?_
          refine r_aload_n (Y := YX9_goText) dX9_goText_54 rfl ?_
          refine r_getR (Y := YX9_goText) (δz := 20) fl_X9_67 dX9_goText_55 rfl rfl ?_
          refine r_iload_n (Y := YX9_goText) dX9_goText_58 rfl ?_
          refine r_iaV (Y := YX9_goText) (v := c) dX9_goText_59 ((Eq.trans (b := τ (m + 20) (i)) ((by (try delta up); (try delta cpy); (try dsimp only); repeat (first | rw [if_pos (by omega)] | rw [if_neg (by omega)]); try (first | rfl | assumption | omega) : _ = σ28 (m + 20) (i)).trans (b2 _ _ (by omega) (by omega))) hv0)) ?_
          refine r_bipush (Y := YX9_goText) dX9_goText_60 ?_
          refine r_icmp_ne (Y := YX9_goText) (tgt := 69) dX9_goText_62 (by decide) (fun c62 => ?_) (fun c62 => absurd c62 (by omega)) 
          refine r_aload_n (Y := YX9_goText) dX9_goText_69 rfl ?_
          refine r_getR (Y := YX9_goText) (δz := 20) fl_X9_67 dX9_goText_70 rfl rfl ?_
          refine r_iload_n (Y := YX9_goText) dX9_goText_73 rfl ?_
          refine r_iconst (Y := YX9_goText) dX9_goText_74 ?_
          refine r_iadd (Y := YX9_goText) dX9_goText_75 ?_
          refine r_iaV (Y := YX9_goText) (v := 45) dX9_goText_76 ((Eq.trans (b := τ (m + 20) ((i : Int) + 1)) ((by (try delta up); (try delta cpy); (try dsimp only); repeat (first | rw [if_pos (by omega)] | rw [if_neg (by omega)]); try (first | rfl | assumption | omega) : _ = σ28 (m + 20) ((i : Int) + 1)).trans (b2 _ _ (by omega) (by omega))) hv1)) ?_
          refine r_i2l (Y := YX9_goText) dX9_goText_77 ?_
          refine r_ldc2 (Y := YX9_goText) (z := 48) wc_X9_137 dX9_goText_78 (by decide) ?_
          refine r_ldc2 (Y := YX9_goText) (z := 51) wc_X9_139 dX9_goText_81 (by decide) ?_
          refine r_iS3I (Y := YX9_goText) ms_X9_95 dX9_goText_84 (c_in (by omega) (by omega) (by omega) (by omega) (by omega) (by omega)) (fun σ84 z84 h84 => ?_)
          obtain ⟨rfl, h84⟩ := h84
          refine r_if_eq (Y := YX9_goText) (tgt := 94) dX9_goText_87 (by decide) (fun c87 => ?_) (fun c87 => ?_) 
          · refine r_iconst (Y := YX9_goText) dX9_goText_94 ?_
            refine r_iadd (Y := YX9_goText) dX9_goText_95 ?_
            refine r_istore_n (Y := YX9_goText) dX9_goText_96 ?_
            refine r_goto (Y := YX9_goText) (tgt := 17) dX9_goText_97 (by decide) ?_
            first
              | (exfalso; omega)
              | skip
            all_goals (have hFG : FG σ (up (up σ28 m 27 (-6)) m 26 (p + 1)) m := fun k i a b => by rw [← hF k i a b, ← b2 k i a (by omega)]; exact (by (try delta up); (try delta cpy); (try dsimp only); repeat (first | rw [if_pos (by omega)] | rw [if_neg (by omega)]); try (first | rfl | assumption | omega)))
            all_goals (have hMT : MT (up (up σ28 m 27 (-6)) m 26 (p + 1)) m (prayR B (c - 65) (s - 48)) := b1.kept (fun k i b => by (try delta up); (try delta cpy); (try dsimp only); repeat (first | rw [if_pos (by omega)] | rw [if_neg (by omega)]); try (first | rfl | assumption | omega)))
            all_goals (have h27 : up (up σ28 m 27 (-6)) m 26 (p + 1) m 27 = -6 := by (try delta up); (try delta cpy); (try dsimp only); repeat (first | rw [if_pos (by omega)] | rw [if_neg (by omega)]); try (first | rfl | assumption | omega))
            all_goals (rw [if_pos hz1] at g5)
            all_goals (exact R2.weak (by repeat first | exact trivial | refine And.intro rfl ?_) (ih r (i + 3) (p + 1) (prayR B (c - 65) (s - 48)) _ (by omega) x9 (by omega) q7 g5 hMT (WA_prayR g7 (by omega) (by omega) (by omega)) (up_same _ _ _ _) (by omega) (by omega) h27 hFG))
          · refine r_iconst (Y := YX9_goText) dX9_goText_90 ?_
            refine r_goto (Y := YX9_goText) (tgt := 95) dX9_goText_91 (by decide) ?_
            refine r_iadd (Y := YX9_goText) dX9_goText_95 ?_
            refine r_istore_n (Y := YX9_goText) dX9_goText_96 ?_
            refine r_goto (Y := YX9_goText) (tgt := 17) dX9_goText_97 (by decide) ?_
            first
              | (exfalso; omega)
              | skip
            all_goals (have hFG : FG σ (up (up σ28 m 27 (-6)) m 26 (p + 1)) m := fun k i a b => by rw [← hF k i a b, ← b2 k i a (by omega)]; exact (by (try delta up); (try delta cpy); (try dsimp only); repeat (first | rw [if_pos (by omega)] | rw [if_neg (by omega)]); try (first | rfl | assumption | omega)))
            all_goals (have hMT : MT (up (up σ28 m 27 (-6)) m 26 (p + 1)) m (prayR B (c - 65) (s - 48)) := b1.kept (fun k i b => by (try delta up); (try delta cpy); (try dsimp only); repeat (first | rw [if_pos (by omega)] | rw [if_neg (by omega)]); try (first | rfl | assumption | omega)))
            all_goals (have h27 : up (up σ28 m 27 (-6)) m 26 (p + 1) m 27 = -6 := by (try delta up); (try delta cpy); (try dsimp only); repeat (first | rw [if_pos (by omega)] | rw [if_neg (by omega)]); try (first | rfl | assumption | omega))
            all_goals (rw [if_pos hz1] at g5)
            all_goals (exact R2.weak (by repeat first | exact trivial | refine And.intro rfl ?_) (ih r (i + 3) (p + 1) (prayR B (c - 65) (s - 48)) _ (by omega) x9 (by omega) q7 g5 hMT (WA_prayR g7 (by omega) (by omega) (by omega)) (up_same _ _ _ _) (by omega) (by omega) h27 hFG))
        · refine r_iload_n (Y := YX9_goText) dX9_goText_17 rfl ?_
          refine r_aload_n (Y := YX9_goText) dX9_goText_18 rfl ?_
          refine r_getV (Y := YX9_goText) (v := (xs.length : Int)) (jz := 25) fl_X9_130 dX9_goText_19 (hPt.1) ?_
          refine r_icmp_ge (Y := YX9_goText) (tgt := 100) dX9_goText_22 (by decide) (fun c22 => absurd c22 (by omega)) (fun c22 => ?_) 
          refine r_aload_n (Y := YX9_goText) dX9_goText_25 rfl ?_
          refine r_aload_n (Y := YX9_goText) dX9_goText_26 rfl ?_
          refine r_iload_n (Y := YX9_goText) dX9_goText_27 rfl ?_
          refine r_iV1I (Y := YX9_goText) mv_X9_168 dX9_goText_28 (c_X9_does_pray hm g6 g7 hPt hD x1 q2 q3 x4 x7 q5 q6 rfl) (by assumption) (fun σ28 z28 h28 => ?_)
          obtain ⟨z28e, b1, b2⟩ := h28
          rw [hz2] at z28e
          subst z28e
          rw [pray_no hz1] at b1
          refine r_putI (Y := YX9_goText) (jz := 27) fp_X9_165 dX9_goText_31 ?_
          refine r_aload_n (Y := YX9_goText) dX9_goText_34 rfl ?_
          refine r_getV (Y := YX9_goText) (v := prayZ B (c - 65) (s - 48)) (jz := 27) fl_X9_165 dX9_goText_35 (up_same _ _ _ _) ?_
          refine r_if_lt (Y := YX9_goText) (tgt := 43) dX9_goText_38 (by decide) (fun c38 => absurd c38 (by omega)) (fun c38 => ?_) 
          refine r_iconst (Y := YX9_goText) dX9_goText_41 ?_
          refine r_zreturn (Y := YX9_goText) dX9_goText_42 (by decide) ?_
          rw [if_neg hz1] at g5
          rw [← g5]
          refine ⟨?_, ?_, ?_, b1.kept (fun k i b => by (try delta up); (try delta cpy); (try dsimp only); repeat (first | rw [if_pos (by omega)] | rw [if_neg (by omega)]); try (first | rfl | assumption | omega)), fun k i a b => by rw [← hF k i a b, ← b2 k i a (by omega)]; exact (by (try delta up); (try delta cpy); (try dsimp only); repeat (first | rw [if_pos (by omega)] | rw [if_neg (by omega)]); try (first | rfl | assumption | omega))⟩
          · show (0 : Int) = if prayZ B (c - 65) (s - 48) = 0 then 1 else 0
            rw [if_neg hz1]
          · show _ = p
            rw [← g8, ← b2 m 26 (by omega) (by omega)]; exact (by (try delta up); (try delta cpy); (try dsimp only); repeat (first | rw [if_pos (by omega)] | rw [if_neg (by omega)]); try (first | rfl | assumption | omega))
          · show _ = nz (prayZ B (c - 65) (s - 48))
            rw [hz2]; exact up_same _ _ _ _
