/-! the model whole: what it holds -/
def RLq (σ : ab_S) (m b c s : Int) (xs : List (Int × Int)) : Prop := σ m s = xs.length ∧ ∀ (i : Nat) (q : Int × Int), xs[i]? = some q → σ (m + b) i = q.1 ∧ σ (m + c) i = q.2
def HP (σ : ab_S) (m : Int) (xs : List Int) : Prop := σ m 25 = xs.length ∧ ∀ (i : Nat) (v : Int), xs[i]? = some v → σ (m + 20) i = v
/-- an image: a run of numbers -/
def IM (σ : ab_S) (m n : Int) (H : WH) : Prop := (σ (m + 25) (180 * n) = aWr H.1 ∧ σ (m + 25) (180 * n + 1) = aWk H.1 ∧ σ (m + 25) (180 * n + 2) = H.2.1.length ∧ σ (m + 25) (180 * n + 3) = H.2.2.length) ∧ (∀ j : Int, 0 ≤ j → j < 6 → σ (m + 25) (180 * n + 4 + 8 * j) = aH H.1 j ∧ σ (m + 25) (180 * n + 5 + 8 * j) = aS H.1 j ∧ σ (m + 25) (180 * n + 6 + 8 * j) = aB H.1 j ∧ σ (m + 25) (180 * n + 7 + 8 * j) = aW H.1 j) ∧ (∀ (i : Nat) (q : Int × Int), H.2.1[i]? = some q → σ (m + 25) (180 * n + 8 + 8 * i) = q.1 ∧ σ (m + 25) (180 * n + 9 + 8 * i) = q.2) ∧ (∀ (i : Nat) (q : Int × Int), H.2.2[i]? = some q → σ (m + 25) (180 * n + 10 + 8 * i) = q.1 ∧ σ (m + 25) (180 * n + 11 + 8 * i) = q.2) ∧ (∀ r : Int, 0 ≤ r → r < 4 → σ (m + 25) (180 * n + 148 + r) = (aR H.1 r).length ∧ ∀ (i : Nat) (l : Lk), (aR H.1 r)[i]? = some l → σ (m + 25) (180 * n + 52 + 3 * (8 * r + i)) = l.1 ∧ σ (m + 25) (180 * n + 53 + 3 * (8 * r + i)) = l.2.1 ∧ σ (m + 25) (180 * n + 54 + 3 * (8 * r + i)) = l.2.2)
def IMS (σ : ab_S) (m : Int) (im : Int → Option WH) : Prop := ∀ i : Int, 0 ≤ i → i < 2 → (im i = none ∧ σ (m + 26) i = 0) ∨ ∃ H, im i = some H ∧ σ (m + 26) i = 1 ∧ IM σ m i H
def HM (σ : ab_S) (m : Int) (G : GS) : Prop := MM σ m G.1.1 ∧ RLq σ m 9 10 12 G.1.2.1 ∧ RLq σ m 11 12 15 G.1.2.2 ∧ HP σ m G.2.1 ∧ IMS σ m G.2.2
def FY (σ τ : ab_S) (m : Int) : Prop := ∀ k i : Int, k < m ∨ m + 26 < k → τ k i = σ k i
theorem IM.kept {σ τ : ab_S} {m n : Int} {H : WH} (h : IM σ m n H) (hf : ∀ i : Int, τ (m + 25) i = σ (m + 25) i) : IM τ m n H := by
  unfold IM
  have e : τ (m + 25) = σ (m + 25) := funext hf
  rw [e]
  exact h
theorem IMS.kept {σ τ : ab_S} {m : Int} {im : Int → Option WH} (h : IMS σ m im) (hf : ∀ k i : Int, k = m + 25 ∨ k = m + 26 → τ k i = σ k i) : IMS τ m im := fun i a b => by
  rw [hf _ _ (Or.inr rfl)]
  rcases h i a b with q | ⟨H, q1, q2, q3⟩
  · exact Or.inl q
  · exact Or.inr ⟨H, q1, q2, q3.kept (fun j => hf _ _ (Or.inl rfl))⟩
theorem RLq.kept {σ τ : ab_S} {m b c s : Int} {xs : List (Int × Int)} (h : RLq σ m b c s xs) (hf : ∀ k i : Int, (k = m ∧ i = s) ∨ k = m + b ∨ k = m + c → τ k i = σ k i) : RLq τ m b c s xs := ⟨by rw [hf _ _ (by omega)]; exact h.1, fun i q hq => by rw [hf _ _ (by omega), hf _ _ (by omega)]; exact h.2 i q hq⟩
theorem HP.kept {σ τ : ab_S} {m : Int} {xs : List Int} (h : HP σ m xs) (hf : ∀ k i : Int, (k = m ∧ i = 25) ∨ k = m + 20 → τ k i = σ k i) : HP τ m xs := ⟨by rw [hf _ _ (by omega)]; exact h.1, fun i q hq => by rw [hf _ _ (by omega)]; exact h.2 i q hq⟩
theorem HM.kept {σ τ : ab_S} {m : Int} {G : GS} (h : HM σ m G) (hf : ∀ k i : Int, (k = m ∧ (i = 8 ∨ i = 9 ∨ i = 12 ∨ i = 15 ∨ i = 25)) ∨ (m + 1 ≤ k ∧ k ≤ m + 12) ∨ k = m + 20 ∨ k = m + 25 ∨ k = m + 26 → τ k i = σ k i) : HM τ m G :=
  ⟨h.1.kept (fun k i b => hf k i (by omega)), h.2.1.kept (fun k i b => hf k i (by omega)), h.2.2.1.kept (fun k i b => hf k i (by omega)), h.2.2.2.1.kept (fun k i b => hf k i (by omega)), h.2.2.2.2.kept (fun k i b => hf k i (by omega))⟩
theorem HM.fm {σ τ : ab_S} {m : Int} {G : GS} (h : HM σ m G) (hf : FM σ τ m) : HM τ m G := h.kept (fun k i b => hf k i (by omega) (by omega))
theorem FM.fy {σ τ : ab_S} {m : Int} (hf : FM σ τ m) : FY σ τ m := fun k i b => hf k i (by omega) (by omega)
/-- the abbey is another -/
theorem HM.abb {σ τ : ab_S} {m : Int} {G : GS} {B : AB} (h : HM σ m G) (h1 : MM τ m B) (hf : ∀ k i : Int, (k = m ∧ (i = 12 ∨ i = 15 ∨ i = 25)) ∨ (m + 9 ≤ k ∧ k ≤ m + 12) ∨ k = m + 20 ∨ k = m + 25 ∨ k = m + 26 → τ k i = σ k i) : HM τ m (setA G B) :=
  ⟨h1, h.2.1.kept (fun k i b => hf k i (by omega)), h.2.2.1.kept (fun k i b => hf k i (by omega)), h.2.2.2.1.kept (fun k i b => hf k i (by omega)), h.2.2.2.2.kept (fun k i b => hf k i (by omega))⟩
theorem HM.padd {σ τ : ab_S} {m : Int} {G : GS} {pd : List Int} (h : HM σ m G) (h1 : HP τ m pd) (hf : ∀ k i : Int, (k = m ∧ (i = 8 ∨ i = 9 ∨ i = 12 ∨ i = 15)) ∨ (m + 1 ≤ k ∧ k ≤ m + 12) ∨ k = m + 25 ∨ k = m + 26 → τ k i = σ k i) : HM τ m (G.1, pd, G.2.2) :=
  ⟨h.1.kept (fun k i b => hf k i (by omega)), h.2.1.kept (fun k i b => hf k i (by omega)), h.2.2.1.kept (fun k i b => hf k i (by omega)), h1, h.2.2.2.2.kept (fun k i b => hf k i (by omega))⟩
theorem HM.lo {σ τ : ab_S} {m : Int} {G : GS} {xs : List (Int × Int)} (h : HM σ m G) (h1 : RLq τ m 9 10 12 xs) (hf : ∀ k i : Int, (k = m ∧ (i = 8 ∨ i = 9 ∨ i = 15 ∨ i = 25)) ∨ (m + 1 ≤ k ∧ k ≤ m + 8) ∨ k = m + 11 ∨ k = m + 12 ∨ k = m + 20 ∨ k = m + 25 ∨ k = m + 26 → τ k i = σ k i) : HM τ m ((G.1.1, xs, G.1.2.2), G.2) :=
  ⟨h.1.kept (fun k i b => hf k i (by omega)), h1, h.2.2.1.kept (fun k i b => hf k i (by omega)), h.2.2.2.1.kept (fun k i b => hf k i (by omega)), h.2.2.2.2.kept (fun k i b => hf k i (by omega))⟩
theorem HM.we {σ τ : ab_S} {m : Int} {G : GS} {xs : List (Int × Int)} (h : HM σ m G) (h1 : RLq τ m 11 12 15 xs) (hf : ∀ k i : Int, (k = m ∧ (i = 8 ∨ i = 9 ∨ i = 12 ∨ i = 25)) ∨ (m + 1 ≤ k ∧ k ≤ m + 8) ∨ k = m + 9 ∨ k = m + 10 ∨ k = m + 20 ∨ k = m + 25 ∨ k = m + 26 → τ k i = σ k i) : HM τ m ((G.1.1, G.1.2.1, xs), G.2) :=
  ⟨h.1.kept (fun k i b => hf k i (by omega)), h.2.1.kept (fun k i b => hf k i (by omega)), h1, h.2.2.2.1.kept (fun k i b => hf k i (by omega)), h.2.2.2.2.kept (fun k i b => hf k i (by omega))⟩
theorem MM_setH {σ τ : ab_S} {m p v : Int} {B : AB} (h : MM σ m B) (hv : τ (m + 1) p = v) (hf : ∀ k i : Int, ((m + 1 ≤ k ∧ k ≤ m + 8) ∨ (k = m ∧ (i = 8 ∨ i = 9))) → ¬ (k = m + 1 ∧ i = p) → τ k i = σ k i) : MM τ m (setH B p v) := by
  obtain ⟨h1, h2, h3, h4, h5, h6, h7⟩ := h
  refine ⟨fun j a b => ?_, fun j a b => ?_, fun j a b => ?_, fun j a b => ?_, fun r a b => ?_, ?_, ?_⟩
  · show τ (m + 1) j = fu (aH B) p v j
    by_cases e : j = p
    · subst e; rw [fu_same]; exact hv
    · rw [fu_ne e, hf _ _ (by omega) (by omega)]; exact h1 j a b
  · rw [hf _ _ (by omega) (by omega)]; exact h2 j a b
  · rw [hf _ _ (by omega) (by omega)]; exact h3 j a b
  · rw [hf _ _ (by omega) (by omega)]; exact h4 j a b
  · exact (h5 r a b).kept (fun k i c => hf k i (by omega) (by omega))
  · rw [hf _ _ (by omega) (by omega)]; exact h6
  · rw [hf _ _ (by omega) (by omega)]; exact h7
theorem MM_setS {σ τ : ab_S} {m p v : Int} {B : AB} (h : MM σ m B) (hv : τ (m + 2) p = v) (hf : ∀ k i : Int, ((m + 1 ≤ k ∧ k ≤ m + 8) ∨ (k = m ∧ (i = 8 ∨ i = 9))) → ¬ (k = m + 2 ∧ i = p) → τ k i = σ k i) : MM τ m (setS B p v) := by
  obtain ⟨h1, h2, h3, h4, h5, h6, h7⟩ := h
  refine ⟨fun j a b => ?_, fun j a b => ?_, fun j a b => ?_, fun j a b => ?_, fun r a b => ?_, ?_, ?_⟩
  · rw [hf _ _ (by omega) (by omega)]; exact h1 j a b
  · show τ (m + 2) j = fu (aS B) p v j
    by_cases e : j = p
    · subst e; rw [fu_same]; exact hv
    · rw [fu_ne e, hf _ _ (by omega) (by omega)]; exact h2 j a b
  · rw [hf _ _ (by omega) (by omega)]; exact h3 j a b
  · rw [hf _ _ (by omega) (by omega)]; exact h4 j a b
  · exact (h5 r a b).kept (fun k i c => hf k i (by omega) (by omega))
  · rw [hf _ _ (by omega) (by omega)]; exact h6
  · rw [hf _ _ (by omega) (by omega)]; exact h7
theorem MM_setWr {σ τ : ab_S} {m v : Int} {B : AB} (h : MM σ m B) (hv : τ m 8 = v) (hf : ∀ k i : Int, ((m + 1 ≤ k ∧ k ≤ m + 8) ∨ (k = m ∧ i = 9)) → τ k i = σ k i) : MM τ m (setWr B v) := by
  obtain ⟨h1, h2, h3, h4, h5, h6, h7⟩ := h
  refine ⟨fun j a b => ?_, fun j a b => ?_, fun j a b => ?_, fun j a b => ?_, fun r a b => ?_, hv, ?_⟩
  · rw [hf _ _ (by omega)]; exact h1 j a b
  · rw [hf _ _ (by omega)]; exact h2 j a b
  · rw [hf _ _ (by omega)]; exact h3 j a b
  · rw [hf _ _ (by omega)]; exact h4 j a b
  · exact (h5 r a b).kept (fun k i c => hf k i (by omega))
  · rw [hf _ _ (by omega)]; exact h7
set_option maxRecDepth 20000 in
theorem c_X9_monk {σ : ab_S} {m : Int} {G : GS} (hm : kd_ m 9 37) (hM : HM σ m G) (hG : OKG G) {p : Int} (hp1 : -2147483648 ≤ p) (hp2 : p ≤ 2147483647) {w : Int} (hw1 : -2147483648 ≤ w) (hw2 : w ≤ 2147483647) {v : Int} (hv1 : -2147483648 ≤ v) (hv2 : v ≤ 2147483647) : C2 YX9_monk 2 σ [rf m, iv p, iv w, iv v] (PI fun σ' z => z = (monkF G p w v).1 ∧ HM σ' m (monkF G p w v).2 ∧ FY σ σ' m) := by
  obtain ⟨k1, k2, k3, k4, k5, k6, k7, k8, k9, k10, k11, k12, k13, k14, k15, k16, k17, k18, k19, k20, k21, k22, k23, k24, k25, k26⟩ := kd_model hm
  have hA := hM.1
  have hW := hG.1.1.1
  have hWL := hG.1.1.2
  refine C2.of (by decide +kernel) (Nat.le_of_ble_eq_true rfl) ?_
  refine r_iload_n (Y := YX9_monk) dX9_monk_0 rfl ?_
  refine r_iS1I (Y := YX9_monk) ms_X9_118 dX9_monk_1 (c_isMonk (by omega) (by omega)) (fun σ1 z1 h1 => ?_)
  obtain ⟨rfl, h1⟩ := h1
  refine r_if_ne (Y := YX9_monk) (tgt := 9) dX9_monk_4 (by decide) (fun c4 => ?_) (fun c4 => ?_) 
  · refine r_iload_n (Y := YX9_monk) dX9_monk_9 rfl ?_
    refine r_i2l (Y := YX9_monk) dX9_monk_10 ?_
    refine r_lconst (Y := YX9_monk) (v := 0) dX9_monk_11 rfl ?_
    refine r_lconst (Y := YX9_monk) (v := 1) dX9_monk_12 rfl ?_
    refine r_iS3I (Y := YX9_monk) ms_X9_95 dX9_monk_13 (c_in (by omega) (by omega) (by omega) (by omega) (by omega) (by omega)) (fun σ13 z13 h13 => ?_)
    obtain ⟨rfl, h13⟩ := h13
    refine r_if_eq (Y := YX9_monk) (tgt := 41) dX9_monk_16 (by decide) (fun c16 => ?_) (fun c16 => ?_) 
    · refine r_bipush (Y := YX9_monk) dX9_monk_41 ?_
      refine r_ireturn (Y := YX9_monk) dX9_monk_43 ?_
      first
        | (exfalso; omega)
        | (unfold monkF; (repeat (first | rw [if_pos (by omega)] | rw [if_neg (by omega)])); exact ⟨rfl, hM, fun _ _ _ => rfl⟩)
    · refine r_iload_n (Y := YX9_monk) dX9_monk_19 rfl ?_
      refine r_i2l (Y := YX9_monk) dX9_monk_20 ?_
      refine r_lconst (Y := YX9_monk) (v := 0) dX9_monk_21 rfl ?_
      refine r_iload_n (Y := YX9_monk) dX9_monk_22 rfl ?_
      refine r_if_ne (Y := YX9_monk) (tgt := 32) dX9_monk_23 (by decide) (fun c23 => ?_) (fun c23 => ?_) 
      · refine r_ldc2 (Y := YX9_monk) (z := 9) wc_X9_124 dX9_monk_32 (by decide) ?_
        refine r_iS3I (Y := YX9_monk) ms_X9_95 dX9_monk_35 (c_in (by omega) (by omega) (by omega) (by omega) (by omega) (by omega)) (fun σ35 z35 h35 => ?_)
        obtain ⟨rfl, h35⟩ := h35
        refine r_if_ne (Y := YX9_monk) (tgt := 44) dX9_monk_38 (by decide) (fun c38 => ?_) (fun c38 => ?_) 
        · refine r_iload_n (Y := YX9_monk) dX9_monk_44 rfl ?_
          refine r_if_ne (Y := YX9_monk) (tgt := 57) dX9_monk_45 (by decide) (fun c45 => ?_) (fun c45 => ?_) 
          · refine r_aload_n (Y := YX9_monk) dX9_monk_57 rfl ?_
            refine r_getR (Y := YX9_monk) (δz := 2) fl_X9_13 dX9_monk_58 rfl rfl ?_
            refine r_iload_n (Y := YX9_monk) dX9_monk_61 rfl ?_
            refine r_iaload (Y := YX9_monk) dX9_monk_62 ?_
            refine r_istore (Y := YX9_monk) dX9_monk_63 ?_
            refine r_aload_n (Y := YX9_monk) dX9_monk_65 rfl ?_
            refine r_getR (Y := YX9_monk) (δz := 1) fl_X9_7 dX9_monk_66 rfl rfl ?_
            refine r_iload_n (Y := YX9_monk) dX9_monk_69 rfl ?_
            refine r_iload_n (Y := YX9_monk) dX9_monk_70 rfl ?_
            refine r_if_ne (Y := YX9_monk) (tgt := 78) dX9_monk_71 (by decide) (fun c71 => ?_) (fun c71 => ?_) 
            · refine r_aload_n (Y := YX9_monk) dX9_monk_78 rfl ?_
              refine r_getR (Y := YX9_monk) (δz := 1) fl_X9_7 dX9_monk_79 rfl rfl ?_
              refine r_iload_n (Y := YX9_monk) dX9_monk_82 rfl ?_
              refine r_iaload (Y := YX9_monk) dX9_monk_83 ?_
              refine r_iastore (Y := YX9_monk) dX9_monk_84 ?_
              refine r_aload_n (Y := YX9_monk) dX9_monk_85 rfl ?_
              refine r_getR (Y := YX9_monk) (δz := 2) fl_X9_13 dX9_monk_86 rfl rfl ?_
              refine r_iload_n (Y := YX9_monk) dX9_monk_89 rfl ?_
              refine r_iload_n (Y := YX9_monk) dX9_monk_90 rfl ?_
              refine r_iconst (Y := YX9_monk) dX9_monk_91 ?_
              refine r_icmp_ne (Y := YX9_monk) (tgt := 99) dX9_monk_92 (by decide) (fun c92 => ?_) (fun c92 => ?_) 
              · refine r_aload_n (Y := YX9_monk) dX9_monk_99 rfl ?_
                refine r_getR (Y := YX9_monk) (δz := 2) fl_X9_13 dX9_monk_100 rfl rfl ?_
                refine r_iload_n (Y := YX9_monk) dX9_monk_103 rfl ?_
                refine r_iaload (Y := YX9_monk) dX9_monk_104 ?_
                refine r_iastore (Y := YX9_monk) dX9_monk_105 ?_
                refine r_iload (Y := YX9_monk) dX9_monk_106 rfl ?_
                refine r_ireturn (Y := YX9_monk) dX9_monk_108 ?_
                first
                  | (exfalso; omega)
                  | skip
                all_goals (unfold monkF)
                all_goals ((repeat (first | rw [if_pos (by omega)] | rw [if_neg (by omega)])))
                all_goals first
                  | exact ⟨hA.1 p (by omega) (by omega), hM.abb (MM_setH hA (by (try delta up); (try delta cpy); (try dsimp only); repeat (first | rw [if_pos (by omega)] | rw [if_neg (by omega)]); try (first | rfl | assumption | omega)) (fun k i a b => by by_cases e : k = m + 2 ∧ i = p; (rw [e.1, e.2]; exact (by (try delta up); (try delta cpy); (try dsimp only); repeat (first | rw [if_pos (by omega)] | rw [if_neg (by omega)]); try (first | rfl | assumption | omega))); exact (by (try delta up); (try delta cpy); (try dsimp only); repeat (first | rw [if_pos (by omega)] | rw [if_neg (by omega)]); try (first | rfl | assumption | omega)))) (fun k i b => by (try delta up); (try delta cpy); (try dsimp only); repeat (first | rw [if_pos (by omega)] | rw [if_neg (by omega)]); try (first | rfl | assumption | omega)), fun k i b => by (try delta up); (try delta cpy); (try dsimp only); repeat (first | rw [if_pos (by omega)] | rw [if_neg (by omega)]); try (first | rfl | assumption | omega)⟩
                  | exact ⟨hA.2.1 p (by omega) (by omega), hM.abb (MM_setS hA (by (try delta up); (try delta cpy); (try dsimp only); repeat (first | rw [if_pos (by omega)] | rw [if_neg (by omega)]); try (first | rfl | assumption | omega)) (fun k i a b => by by_cases e : k = m + 1 ∧ i = p; (rw [e.1, e.2]; exact (by (try delta up); (try delta cpy); (try dsimp only); repeat (first | rw [if_pos (by omega)] | rw [if_neg (by omega)]); try (first | rfl | assumption | omega))); exact (by (try delta up); (try delta cpy); (try dsimp only); repeat (first | rw [if_pos (by omega)] | rw [if_neg (by omega)]); try (first | rfl | assumption | omega)))) (fun k i b => by (try delta up); (try delta cpy); (try dsimp only); repeat (first | rw [if_pos (by omega)] | rw [if_neg (by omega)]); try (first | rfl | assumption | omega)), fun k i b => by (try delta up); (try delta cpy); (try dsimp only); repeat (first | rw [if_pos (by omega)] | rw [if_neg (by omega)]); try (first | rfl | assumption | omega)⟩
              · refine r_iload_n (Y := YX9_monk) dX9_monk_95 rfl ?_
                refine r_goto (Y := YX9_monk) (tgt := 105) dX9_monk_96 (by decide) ?_
                refine r_iastore (Y := YX9_monk) dX9_monk_105 ?_
                refine r_iload (Y := YX9_monk) dX9_monk_106 rfl ?_
                refine r_ireturn (Y := YX9_monk) dX9_monk_108 ?_
                first
                  | (exfalso; omega)
                  | skip
                all_goals (unfold monkF)
                all_goals ((repeat (first | rw [if_pos (by omega)] | rw [if_neg (by omega)])))
                all_goals first
                  | exact ⟨hA.1 p (by omega) (by omega), hM.abb (MM_setH hA (by (try delta up); (try delta cpy); (try dsimp only); repeat (first | rw [if_pos (by omega)] | rw [if_neg (by omega)]); try (first | rfl | assumption | omega)) (fun k i a b => by by_cases e : k = m + 2 ∧ i = p; (rw [e.1, e.2]; exact (by (try delta up); (try delta cpy); (try dsimp only); repeat (first | rw [if_pos (by omega)] | rw [if_neg (by omega)]); try (first | rfl | assumption | omega))); exact (by (try delta up); (try delta cpy); (try dsimp only); repeat (first | rw [if_pos (by omega)] | rw [if_neg (by omega)]); try (first | rfl | assumption | omega)))) (fun k i b => by (try delta up); (try delta cpy); (try dsimp only); repeat (first | rw [if_pos (by omega)] | rw [if_neg (by omega)]); try (first | rfl | assumption | omega)), fun k i b => by (try delta up); (try delta cpy); (try dsimp only); repeat (first | rw [if_pos (by omega)] | rw [if_neg (by omega)]); try (first | rfl | assumption | omega)⟩
                  | exact ⟨hA.2.1 p (by omega) (by omega), hM.abb (MM_setS hA (by (try delta up); (try delta cpy); (try dsimp only); repeat (first | rw [if_pos (by omega)] | rw [if_neg (by omega)]); try (first | rfl | assumption | omega)) (fun k i a b => by by_cases e : k = m + 1 ∧ i = p; (rw [e.1, e.2]; exact (by (try delta up); (try delta cpy); (try dsimp only); repeat (first | rw [if_pos (by omega)] | rw [if_neg (by omega)]); try (first | rfl | assumption | omega))); exact (by (try delta up); (try delta cpy); (try dsimp only); repeat (first | rw [if_pos (by omega)] | rw [if_neg (by omega)]); try (first | rfl | assumption | omega)))) (fun k i b => by (try delta up); (try delta cpy); (try dsimp only); repeat (first | rw [if_pos (by omega)] | rw [if_neg (by omega)]); try (first | rfl | assumption | omega)), fun k i b => by (try delta up); (try delta cpy); (try dsimp only); repeat (first | rw [if_pos (by omega)] | rw [if_neg (by omega)]); try (first | rfl | assumption | omega)⟩
            · refine r_iload_n (Y := YX9_monk) dX9_monk_74 rfl ?_
              refine r_goto (Y := YX9_monk) (tgt := 84) dX9_monk_75 (by decide) ?_
              refine r_iastore (Y := YX9_monk) dX9_monk_84 ?_
              refine r_aload_n (Y := YX9_monk) dX9_monk_85 rfl ?_
              refine r_getR (Y := YX9_monk) (δz := 2) fl_X9_13 dX9_monk_86 rfl rfl ?_
              refine r_iload_n (Y := YX9_monk) dX9_monk_89 rfl ?_
              refine r_iload_n (Y := YX9_monk) dX9_monk_90 rfl ?_
              refine r_iconst (Y := YX9_monk) dX9_monk_91 ?_
              refine r_icmp_ne (Y := YX9_monk) (tgt := 99) dX9_monk_92 (by decide) (fun c92 => ?_) (fun c92 => ?_) 
              · refine r_aload_n (Y := YX9_monk) dX9_monk_99 rfl ?_
                refine r_getR (Y := YX9_monk) (δz := 2) fl_X9_13 dX9_monk_100 rfl rfl ?_
                refine r_iload_n (Y := YX9_monk) dX9_monk_103 rfl ?_
                refine r_iaload (Y := YX9_monk) dX9_monk_104 ?_
                refine r_iastore (Y := YX9_monk) dX9_monk_105 ?_
                refine r_iload (Y := YX9_monk) dX9_monk_106 rfl ?_
                refine r_ireturn (Y := YX9_monk) dX9_monk_108 ?_
                first
                  | (exfalso; omega)
                  | skip
                all_goals (unfold monkF)
                all_goals ((repeat (first | rw [if_pos (by omega)] | rw [if_neg (by omega)])))
                all_goals first
                  | exact ⟨hA.1 p (by omega) (by omega), hM.abb (MM_setH hA (by (try delta up); (try delta cpy); (try dsimp only); repeat (first | rw [if_pos (by omega)] | rw [if_neg (by omega)]); try (first | rfl | assumption | omega)) (fun k i a b => by by_cases e : k = m + 2 ∧ i = p; (rw [e.1, e.2]; exact (by (try delta up); (try delta cpy); (try dsimp only); repeat (first | rw [if_pos (by omega)] | rw [if_neg (by omega)]); try (first | rfl | assumption | omega))); exact (by (try delta up); (try delta cpy); (try dsimp only); repeat (first | rw [if_pos (by omega)] | rw [if_neg (by omega)]); try (first | rfl | assumption | omega)))) (fun k i b => by (try delta up); (try delta cpy); (try dsimp only); repeat (first | rw [if_pos (by omega)] | rw [if_neg (by omega)]); try (first | rfl | assumption | omega)), fun k i b => by (try delta up); (try delta cpy); (try dsimp only); repeat (first | rw [if_pos (by omega)] | rw [if_neg (by omega)]); try (first | rfl | assumption | omega)⟩
                  | exact ⟨hA.2.1 p (by omega) (by omega), hM.abb (MM_setS hA (by (try delta up); (try delta cpy); (try dsimp only); repeat (first | rw [if_pos (by omega)] | rw [if_neg (by omega)]); try (first | rfl | assumption | omega)) (fun k i a b => by by_cases e : k = m + 1 ∧ i = p; (rw [e.1, e.2]; exact (by (try delta up); (try delta cpy); (try dsimp only); repeat (first | rw [if_pos (by omega)] | rw [if_neg (by omega)]); try (first | rfl | assumption | omega))); exact (by (try delta up); (try delta cpy); (try dsimp only); repeat (first | rw [if_pos (by omega)] | rw [if_neg (by omega)]); try (first | rfl | assumption | omega)))) (fun k i b => by (try delta up); (try delta cpy); (try dsimp only); repeat (first | rw [if_pos (by omega)] | rw [if_neg (by omega)]); try (first | rfl | assumption | omega)), fun k i b => by (try delta up); (try delta cpy); (try dsimp only); repeat (first | rw [if_pos (by omega)] | rw [if_neg (by omega)]); try (first | rfl | assumption | omega)⟩
              · refine r_iload_n (Y := YX9_monk) dX9_monk_95 rfl ?_
                refine r_goto (Y := YX9_monk) (tgt := 105) dX9_monk_96 (by decide) ?_
                refine r_iastore (Y := YX9_monk) dX9_monk_105 ?_
                refine r_iload (Y := YX9_monk) dX9_monk_106 rfl ?_
                refine r_ireturn (Y := YX9_monk) dX9_monk_108 ?_
                first
                  | (exfalso; omega)
                  | skip
                all_goals (unfold monkF)
                all_goals ((repeat (first | rw [if_pos (by omega)] | rw [if_neg (by omega)])))
                all_goals first
                  | exact ⟨hA.1 p (by omega) (by omega), hM.abb (MM_setH hA (by (try delta up); (try delta cpy); (try dsimp only); repeat (first | rw [if_pos (by omega)] | rw [if_neg (by omega)]); try (first | rfl | assumption | omega)) (fun k i a b => by by_cases e : k = m + 2 ∧ i = p; (rw [e.1, e.2]; exact (by (try delta up); (try delta cpy); (try dsimp only); repeat (first | rw [if_pos (by omega)] | rw [if_neg (by omega)]); try (first | rfl | assumption | omega))); exact (by (try delta up); (try delta cpy); (try dsimp only); repeat (first | rw [if_pos (by omega)] | rw [if_neg (by omega)]); try (first | rfl | assumption | omega)))) (fun k i b => by (try delta up); (try delta cpy); (try dsimp only); repeat (first | rw [if_pos (by omega)] | rw [if_neg (by omega)]); try (first | rfl | assumption | omega)), fun k i b => by (try delta up); (try delta cpy); (try dsimp only); repeat (first | rw [if_pos (by omega)] | rw [if_neg (by omega)]); try (first | rfl | assumption | omega)⟩
                  | exact ⟨hA.2.1 p (by omega) (by omega), hM.abb (MM_setS hA (by (try delta up); (try delta cpy); (try dsimp only); repeat (first | rw [if_pos (by omega)] | rw [if_neg (by omega)]); try (first | rfl | assumption | omega)) (fun k i a b => by by_cases e : k = m + 1 ∧ i = p; (rw [e.1, e.2]; exact (by (try delta up); (try delta cpy); (try dsimp only); repeat (first | rw [if_pos (by omega)] | rw [if_neg (by omega)]); try (first | rfl | assumption | omega))); exact (by (try delta up); (try delta cpy); (try dsimp only); repeat (first | rw [if_pos (by omega)] | rw [if_neg (by omega)]); try (first | rfl | assumption | omega)))) (fun k i b => by (try delta up); (try delta cpy); (try dsimp only); repeat (first | rw [if_pos (by omega)] | rw [if_neg (by omega)]); try (first | rfl | assumption | omega)), fun k i b => by (try delta up); (try delta cpy); (try dsimp only); repeat (first | rw [if_pos (by omega)] | rw [if_neg (by omega)]); try (first | rfl | assumption | omega)⟩
          · refine r_aload_n (Y := YX9_monk) dX9_monk_48 rfl ?_
            refine r_getR (Y := YX9_monk) (δz := 1) fl_X9_7 dX9_monk_49 rfl rfl ?_
            refine r_iload_n (Y := YX9_monk) dX9_monk_52 rfl ?_
            refine r_iaload (Y := YX9_monk) dX9_monk_53 ?_
            refine r_goto (Y := YX9_monk) (tgt := 63) dX9_monk_54 (by decide) ?_
            refine r_istore (Y := YX9_monk) dX9_monk_63 ?_
            refine r_aload_n (Y := YX9_monk) dX9_monk_65 rfl ?_
            refine r_getR (Y := YX9_monk) (δz := 1) fl_X9_7 dX9_monk_66 rfl rfl ?_
            refine r_iload_n (Y := YX9_monk) dX9_monk_69 rfl ?_
            refine r_iload_n (Y := YX9_monk) dX9_monk_70 rfl ?_
            refine r_if_ne (Y := YX9_monk) (tgt := 78) dX9_monk_71 (by decide) (fun c71 => ?_) (fun c71 => ?_) 
            · refine r_aload_n (Y := YX9_monk) dX9_monk_78 rfl ?_
              refine r_getR (Y := YX9_monk) (δz := 1) fl_X9_7 dX9_monk_79 rfl rfl ?_
              refine r_iload_n (Y := YX9_monk) dX9_monk_82 rfl ?_
              refine r_iaload (Y := YX9_monk) dX9_monk_83 ?_
              refine r_iastore (Y := YX9_monk) dX9_monk_84 ?_
              refine r_aload_n (Y := YX9_monk) dX9_monk_85 rfl ?_
              refine r_getR (Y := YX9_monk) (δz := 2) fl_X9_13 dX9_monk_86 rfl rfl ?_
              refine r_iload_n (Y := YX9_monk) dX9_monk_89 rfl ?_
              refine r_iload_n (Y := YX9_monk) dX9_monk_90 rfl ?_
              refine r_iconst (Y := YX9_monk) dX9_monk_91 ?_
              refine r_icmp_ne (Y := YX9_monk) (tgt := 99) dX9_monk_92 (by decide) (fun c92 => ?_) (fun c92 => ?_) 
              · refine r_aload_n (Y := YX9_monk) dX9_monk_99 rfl ?_
                refine r_getR (Y := YX9_monk) (δz := 2) fl_X9_13 dX9_monk_100 rfl rfl ?_
                refine r_iload_n (Y := YX9_monk) dX9_monk_103 rfl ?_
                refine r_iaload (Y := YX9_monk) dX9_monk_104 ?_
                refine r_iastore (Y := YX9_monk) dX9_monk_105 ?_
                refine r_iload (Y := YX9_monk) dX9_monk_106 rfl ?_
                refine r_ireturn (Y := YX9_monk) dX9_monk_108 ?_
                first
                  | (exfalso; omega)
                  | skip
                all_goals (unfold monkF)
                all_goals ((repeat (first | rw [if_pos (by omega)] | rw [if_neg (by omega)])))
                all_goals first
                  | exact ⟨hA.1 p (by omega) (by omega), hM.abb (MM_setH hA (by (try delta up); (try delta cpy); (try dsimp only); repeat (first | rw [if_pos (by omega)] | rw [if_neg (by omega)]); try (first | rfl | assumption | omega)) (fun k i a b => by by_cases e : k = m + 2 ∧ i = p; (rw [e.1, e.2]; exact (by (try delta up); (try delta cpy); (try dsimp only); repeat (first | rw [if_pos (by omega)] | rw [if_neg (by omega)]); try (first | rfl | assumption | omega))); exact (by (try delta up); (try delta cpy); (try dsimp only); repeat (first | rw [if_pos (by omega)] | rw [if_neg (by omega)]); try (first | rfl | assumption | omega)))) (fun k i b => by (try delta up); (try delta cpy); (try dsimp only); repeat (first | rw [if_pos (by omega)] | rw [if_neg (by omega)]); try (first | rfl | assumption | omega)), fun k i b => by (try delta up); (try delta cpy); (try dsimp only); repeat (first | rw [if_pos (by omega)] | rw [if_neg (by omega)]); try (first | rfl | assumption | omega)⟩
                  | exact ⟨hA.2.1 p (by omega) (by omega), hM.abb (MM_setS hA (by (try delta up); (try delta cpy); (try dsimp only); repeat (first | rw [if_pos (by omega)] | rw [if_neg (by omega)]); try (first | rfl | assumption | omega)) (fun k i a b => by by_cases e : k = m + 1 ∧ i = p; (rw [e.1, e.2]; exact (by (try delta up); (try delta cpy); (try dsimp only); repeat (first | rw [if_pos (by omega)] | rw [if_neg (by omega)]); try (first | rfl | assumption | omega))); exact (by (try delta up); (try delta cpy); (try dsimp only); repeat (first | rw [if_pos (by omega)] | rw [if_neg (by omega)]); try (first | rfl | assumption | omega)))) (fun k i b => by (try delta up); (try delta cpy); (try dsimp only); repeat (first | rw [if_pos (by omega)] | rw [if_neg (by omega)]); try (first | rfl | assumption | omega)), fun k i b => by (try delta up); (try delta cpy); (try dsimp only); repeat (first | rw [if_pos (by omega)] | rw [if_neg (by omega)]); try (first | rfl | assumption | omega)⟩
              · refine r_iload_n (Y := YX9_monk) dX9_monk_95 rfl ?_
                refine r_goto (Y := YX9_monk) (tgt := 105) dX9_monk_96 (by decide) ?_
                refine r_iastore (Y := YX9_monk) dX9_monk_105 ?_
                refine r_iload (Y := YX9_monk) dX9_monk_106 rfl ?_
                refine r_ireturn (Y := YX9_monk) dX9_monk_108 ?_
                first
                  | (exfalso; omega)
                  | skip
                all_goals (unfold monkF)
                all_goals ((repeat (first | rw [if_pos (by omega)] | rw [if_neg (by omega)])))
                all_goals first
                  | exact ⟨hA.1 p (by omega) (by omega), hM.abb (MM_setH hA (by (try delta up); (try delta cpy); (try dsimp only); repeat (first | rw [if_pos (by omega)] | rw [if_neg (by omega)]); try (first | rfl | assumption | omega)) (fun k i a b => by by_cases e : k = m + 2 ∧ i = p; (rw [e.1, e.2]; exact (by (try delta up); (try delta cpy); (try dsimp only); repeat (first | rw [if_pos (by omega)] | rw [if_neg (by omega)]); try (first | rfl | assumption | omega))); exact (by (try delta up); (try delta cpy); (try dsimp only); repeat (first | rw [if_pos (by omega)] | rw [if_neg (by omega)]); try (first | rfl | assumption | omega)))) (fun k i b => by (try delta up); (try delta cpy); (try dsimp only); repeat (first | rw [if_pos (by omega)] | rw [if_neg (by omega)]); try (first | rfl | assumption | omega)), fun k i b => by (try delta up); (try delta cpy); (try dsimp only); repeat (first | rw [if_pos (by omega)] | rw [if_neg (by omega)]); try (first | rfl | assumption | omega)⟩
                  | exact ⟨hA.2.1 p (by omega) (by omega), hM.abb (MM_setS hA (by (try delta up); (try delta cpy); (try dsimp only); repeat (first | rw [if_pos (by omega)] | rw [if_neg (by omega)]); try (first | rfl | assumption | omega)) (fun k i a b => by by_cases e : k = m + 1 ∧ i = p; (rw [e.1, e.2]; exact (by (try delta up); (try delta cpy); (try dsimp only); repeat (first | rw [if_pos (by omega)] | rw [if_neg (by omega)]); try (first | rfl | assumption | omega))); exact (by (try delta up); (try delta cpy); (try dsimp only); repeat (first | rw [if_pos (by omega)] | rw [if_neg (by omega)]); try (first | rfl | assumption | omega)))) (fun k i b => by (try delta up); (try delta cpy); (try dsimp only); repeat (first | rw [if_pos (by omega)] | rw [if_neg (by omega)]); try (first | rfl | assumption | omega)), fun k i b => by (try delta up); (try delta cpy); (try dsimp only); repeat (first | rw [if_pos (by omega)] | rw [if_neg (by omega)]); try (first | rfl | assumption | omega)⟩
            · refine r_iload_n (Y := YX9_monk) dX9_monk_74 rfl ?_
              refine r_goto (Y := YX9_monk) (tgt := 84) dX9_monk_75 (by decide) ?_
              refine r_iastore (Y := YX9_monk) dX9_monk_84 ?_
              refine r_aload_n (Y := YX9_monk) dX9_monk_85 rfl ?_
              refine r_getR (Y := YX9_monk) (δz := 2) fl_X9_13 dX9_monk_86 rfl rfl ?_
              refine r_iload_n (Y := YX9_monk) dX9_monk_89 rfl ?_
              refine r_iload_n (Y := YX9_monk) dX9_monk_90 rfl ?_
              refine r_iconst (Y := YX9_monk) dX9_monk_91 ?_
              refine r_icmp_ne (Y := YX9_monk) (tgt := 99) dX9_monk_92 (by decide) (fun c92 => ?_) (fun c92 => ?_) 
              · refine r_aload_n (Y := YX9_monk) dX9_monk_99 rfl ?_
                refine r_getR (Y := YX9_monk) (δz := 2) fl_X9_13 dX9_monk_100 rfl rfl ?_
                refine r_iload_n (Y := YX9_monk) dX9_monk_103 rfl ?_
                refine r_iaload (Y := YX9_monk) dX9_monk_104 ?_
                refine r_iastore (Y := YX9_monk) dX9_monk_105 ?_
                refine r_iload (Y := YX9_monk) dX9_monk_106 rfl ?_
                refine r_ireturn (Y := YX9_monk) dX9_monk_108 ?_
                first
                  | (exfalso; omega)
                  | skip
                all_goals (unfold monkF)
                all_goals ((repeat (first | rw [if_pos (by omega)] | rw [if_neg (by omega)])))
                all_goals first
                  | exact ⟨hA.1 p (by omega) (by omega), hM.abb (MM_setH hA (by (try delta up); (try delta cpy); (try dsimp only); repeat (first | rw [if_pos (by omega)] | rw [if_neg (by omega)]); try (first | rfl | assumption | omega)) (fun k i a b => by by_cases e : k = m + 2 ∧ i = p; (rw [e.1, e.2]; exact (by (try delta up); (try delta cpy); (try dsimp only); repeat (first | rw [if_pos (by omega)] | rw [if_neg (by omega)]); try (first | rfl | assumption | omega))); exact (by (try delta up); (try delta cpy); (try dsimp only); repeat (first | rw [if_pos (by omega)] | rw [if_neg (by omega)]); try (first | rfl | assumption | omega)))) (fun k i b => by (try delta up); (try delta cpy); (try dsimp only); repeat (first | rw [if_pos (by omega)] | rw [if_neg (by omega)]); try (first | rfl | assumption | omega)), fun k i b => by (try delta up); (try delta cpy); (try dsimp only); repeat (first | rw [if_pos (by omega)] | rw [if_neg (by omega)]); try (first | rfl | assumption | omega)⟩
                  | exact ⟨hA.2.1 p (by omega) (by omega), hM.abb (MM_setS hA (by (try delta up); (try delta cpy); (try dsimp only); repeat (first | rw [if_pos (by omega)] | rw [if_neg (by omega)]); try (first | rfl | assumption | omega)) (fun k i a b => by by_cases e : k = m + 1 ∧ i = p; (rw [e.1, e.2]; exact (by (try delta up); (try delta cpy); (try dsimp only); repeat (first | rw [if_pos (by omega)] | rw [if_neg (by omega)]); try (first | rfl | assumption | omega))); exact (by (try delta up); (try delta cpy); (try dsimp only); repeat (first | rw [if_pos (by omega)] | rw [if_neg (by omega)]); try (first | rfl | assumption | omega)))) (fun k i b => by (try delta up); (try delta cpy); (try dsimp only); repeat (first | rw [if_pos (by omega)] | rw [if_neg (by omega)]); try (first | rfl | assumption | omega)), fun k i b => by (try delta up); (try delta cpy); (try dsimp only); repeat (first | rw [if_pos (by omega)] | rw [if_neg (by omega)]); try (first | rfl | assumption | omega)⟩
              · refine r_iload_n (Y := YX9_monk) dX9_monk_95 rfl ?_
                refine r_goto (Y := YX9_monk) (tgt := 105) dX9_monk_96 (by decide) ?_
                refine r_iastore (Y := YX9_monk) dX9_monk_105 ?_
                refine r_iload (Y := YX9_monk) dX9_monk_106 rfl ?_
                refine r_ireturn (Y := YX9_monk) dX9_monk_108 ?_
                first
                  | (exfalso; omega)
                  | skip
                all_goals (unfold monkF)
                all_goals ((repeat (first | rw [if_pos (by omega)] | rw [if_neg (by omega)])))
                all_goals first
                  | exact ⟨hA.1 p (by omega) (by omega), hM.abb (MM_setH hA (by (try delta up); (try delta cpy); (try dsimp only); repeat (first | rw [if_pos (by omega)] | rw [if_neg (by omega)]); try (first | rfl | assumption | omega)) (fun k i a b => by by_cases e : k = m + 2 ∧ i = p; (rw [e.1, e.2]; exact (by (try delta up); (try delta cpy); (try dsimp only); repeat (first | rw [if_pos (by omega)] | rw [if_neg (by omega)]); try (first | rfl | assumption | omega))); exact (by (try delta up); (try delta cpy); (try dsimp only); repeat (first | rw [if_pos (by omega)] | rw [if_neg (by omega)]); try (first | rfl | assumption | omega)))) (fun k i b => by (try delta up); (try delta cpy); (try dsimp only); repeat (first | rw [if_pos (by omega)] | rw [if_neg (by omega)]); try (first | rfl | assumption | omega)), fun k i b => by (try delta up); (try delta cpy); (try dsimp only); repeat (first | rw [if_pos (by omega)] | rw [if_neg (by omega)]); try (first | rfl | assumption | omega)⟩
                  | exact ⟨hA.2.1 p (by omega) (by omega), hM.abb (MM_setS hA (by (try delta up); (try delta cpy); (try dsimp only); repeat (first | rw [if_pos (by omega)] | rw [if_neg (by omega)]); try (first | rfl | assumption | omega)) (fun k i a b => by by_cases e : k = m + 1 ∧ i = p; (rw [e.1, e.2]; exact (by (try delta up); (try delta cpy); (try dsimp only); repeat (first | rw [if_pos (by omega)] | rw [if_neg (by omega)]); try (first | rfl | assumption | omega))); exact (by (try delta up); (try delta cpy); (try dsimp only); repeat (first | rw [if_pos (by omega)] | rw [if_neg (by omega)]); try (first | rfl | assumption | omega)))) (fun k i b => by (try delta up); (try delta cpy); (try dsimp only); repeat (first | rw [if_pos (by omega)] | rw [if_neg (by omega)]); try (first | rfl | assumption | omega)), fun k i b => by (try delta up); (try delta cpy); (try dsimp only); repeat (first | rw [if_pos (by omega)] | rw [if_neg (by omega)]); try (first | rfl | assumption | omega)⟩
        · refine r_bipush (Y := YX9_monk) dX9_monk_41 ?_
          refine r_ireturn (Y := YX9_monk) dX9_monk_43 ?_
          first
            | (exfalso; omega)
            | (unfold monkF; (repeat (first | rw [if_pos (by omega)] | rw [if_neg (by omega)])); exact ⟨rfl, hM, fun _ _ _ => rfl⟩)
      · refine r_ldc2 (Y := YX9_monk) (z := 40) wc_X9_122 dX9_monk_26 (by decide) ?_
        refine r_goto (Y := YX9_monk) (tgt := 35) dX9_monk_29 (by decide) ?_
        refine r_iS3I (Y := YX9_monk) ms_X9_95 dX9_monk_35 (c_in (by omega) (by omega) (by omega) (by omega) (by omega) (by omega)) (fun σ35 z35 h35 => ?_)
        obtain ⟨rfl, h35⟩ := h35
        refine r_if_ne (Y := YX9_monk) (tgt := 44) dX9_monk_38 (by decide) (fun c38 => ?_) (fun c38 => ?_) 
        · refine r_iload_n (Y := YX9_monk) dX9_monk_44 rfl ?_
          refine r_if_ne (Y := YX9_monk) (tgt := 57) dX9_monk_45 (by decide) (fun c45 => ?_) (fun c45 => ?_) 
          · refine r_aload_n (Y := YX9_monk) dX9_monk_57 rfl ?_
            refine r_getR (Y := YX9_monk) (δz := 2) fl_X9_13 dX9_monk_58 rfl rfl ?_
            refine r_iload_n (Y := YX9_monk) dX9_monk_61 rfl ?_
            refine r_iaload (Y := YX9_monk) dX9_monk_62 ?_
            refine r_istore (Y := YX9_monk) dX9_monk_63 ?_
            refine r_aload_n (Y := YX9_monk) dX9_monk_65 rfl ?_
            refine r_getR (Y := YX9_monk) (δz := 1) fl_X9_7 dX9_monk_66 rfl rfl ?_
            refine r_iload_n (Y := YX9_monk) dX9_monk_69 rfl ?_
            refine r_iload_n (Y := YX9_monk) dX9_monk_70 rfl ?_
            refine r_if_ne (Y := YX9_monk) (tgt := 78) dX9_monk_71 (by decide) (fun c71 => ?_) (fun c71 => ?_) 
            · refine r_aload_n (Y := YX9_monk) dX9_monk_78 rfl ?_
              refine r_getR (Y := YX9_monk) (δz := 1) fl_X9_7 dX9_monk_79 rfl rfl ?_
              refine r_iload_n (Y := YX9_monk) dX9_monk_82 rfl ?_
              refine r_iaload (Y := YX9_monk) dX9_monk_83 ?_
              refine r_iastore (Y := YX9_monk) dX9_monk_84 ?_
              refine r_aload_n (Y := YX9_monk) dX9_monk_85 rfl ?_
              refine r_getR (Y := YX9_monk) (δz := 2) fl_X9_13 dX9_monk_86 rfl rfl ?_
              refine r_iload_n (Y := YX9_monk) dX9_monk_89 rfl ?_
              refine r_iload_n (Y := YX9_monk) dX9_monk_90 rfl ?_
              refine r_iconst (Y := YX9_monk) dX9_monk_91 ?_
              refine r_icmp_ne (Y := YX9_monk) (tgt := 99) dX9_monk_92 (by decide) (fun c92 => ?_) (fun c92 => ?_) 
              · refine r_aload_n (Y := YX9_monk) dX9_monk_99 rfl ?_
                refine r_getR (Y := YX9_monk) (δz := 2) fl_X9_13 dX9_monk_100 rfl rfl ?_
                refine r_iload_n (Y := YX9_monk) dX9_monk_103 rfl ?_
                refine r_iaload (Y := YX9_monk) dX9_monk_104 ?_
                refine r_iastore (Y := YX9_monk) dX9_monk_105 ?_
                refine r_iload (Y := YX9_monk) dX9_monk_106 rfl ?_
                refine r_ireturn (Y := YX9_monk) dX9_monk_108 ?_
                first
                  | (exfalso; omega)
                  | skip
                all_goals (unfold monkF)
                all_goals ((repeat (first | rw [if_pos (by omega)] | rw [if_neg (by omega)])))
                all_goals first
                  | exact ⟨hA.1 p (by omega) (by omega), hM.abb (MM_setH hA (by (try delta up); (try delta cpy); (try dsimp only); repeat (first | rw [if_pos (by omega)] | rw [if_neg (by omega)]); try (first | rfl | assumption | omega)) (fun k i a b => by by_cases e : k = m + 2 ∧ i = p; (rw [e.1, e.2]; exact (by (try delta up); (try delta cpy); (try dsimp only); repeat (first | rw [if_pos (by omega)] | rw [if_neg (by omega)]); try (first | rfl | assumption | omega))); exact (by (try delta up); (try delta cpy); (try dsimp only); repeat (first | rw [if_pos (by omega)] | rw [if_neg (by omega)]); try (first | rfl | assumption | omega)))) (fun k i b => by (try delta up); (try delta cpy); (try dsimp only); repeat (first | rw [if_pos (by omega)] | rw [if_neg (by omega)]); try (first | rfl | assumption | omega)), fun k i b => by (try delta up); (try delta cpy); (try dsimp only); repeat (first | rw [if_pos (by omega)] | rw [if_neg (by omega)]); try (first | rfl | assumption | omega)⟩
                  | exact ⟨hA.2.1 p (by omega) (by omega), hM.abb (MM_setS hA (by (try delta up); (try delta cpy); (try dsimp only); repeat (first | rw [if_pos (by omega)] | rw [if_neg (by omega)]); try (first | rfl | assumption | omega)) (fun k i a b => by by_cases e : k = m + 1 ∧ i = p; (rw [e.1, e.2]; exact (by (try delta up); (try delta cpy); (try dsimp only); repeat (first | rw [if_pos (by omega)] | rw [if_neg (by omega)]); try (first | rfl | assumption | omega))); exact (by (try delta up); (try delta cpy); (try dsimp only); repeat (first | rw [if_pos (by omega)] | rw [if_neg (by omega)]); try (first | rfl | assumption | omega)))) (fun k i b => by (try delta up); (try delta cpy); (try dsimp only); repeat (first | rw [if_pos (by omega)] | rw [if_neg (by omega)]); try (first | rfl | assumption | omega)), fun k i b => by (try delta up); (try delta cpy); (try dsimp only); repeat (first | rw [if_pos (by omega)] | rw [if_neg (by omega)]); try (first | rfl | assumption | omega)⟩
              · refine r_iload_n (Y := YX9_monk) dX9_monk_95 rfl ?_
                refine r_goto (Y := YX9_monk) (tgt := 105) dX9_monk_96 (by decide) ?_
                refine r_iastore (Y := YX9_monk) dX9_monk_105 ?_
                refine r_iload (Y := YX9_monk) dX9_monk_106 rfl ?_
                refine r_ireturn (Y := YX9_monk) dX9_monk_108 ?_
                first
                  | (exfalso; omega)
                  | skip
                all_goals (unfold monkF)
                all_goals ((repeat (first | rw [if_pos (by omega)] | rw [if_neg (by omega)])))
                all_goals first
                  | exact ⟨hA.1 p (by omega) (by omega), hM.abb (MM_setH hA (by (try delta up); (try delta cpy); (try dsimp only); repeat (first | rw [if_pos (by omega)] | rw [if_neg (by omega)]); try (first | rfl | assumption | omega)) (fun k i a b => by by_cases e : k = m + 2 ∧ i = p; (rw [e.1, e.2]; exact (by (try delta up); (try delta cpy); (try dsimp only); repeat (first | rw [if_pos (by omega)] | rw [if_neg (by omega)]); try (first | rfl | assumption | omega))); exact (by (try delta up); (try delta cpy); (try dsimp only); repeat (first | rw [if_pos (by omega)] | rw [if_neg (by omega)]); try (first | rfl | assumption | omega)))) (fun k i b => by (try delta up); (try delta cpy); (try dsimp only); repeat (first | rw [if_pos (by omega)] | rw [if_neg (by omega)]); try (first | rfl | assumption | omega)), fun k i b => by (try delta up); (try delta cpy); (try dsimp only); repeat (first | rw [if_pos (by omega)] | rw [if_neg (by omega)]); try (first | rfl | assumption | omega)⟩
                  | exact ⟨hA.2.1 p (by omega) (by omega), hM.abb (MM_setS hA (by (try delta up); (try delta cpy); (try dsimp only); repeat (first | rw [if_pos (by omega)] | rw [if_neg (by omega)]); try (first | rfl | assumption | omega)) (fun k i a b => by by_cases e : k = m + 1 ∧ i = p; (rw [e.1, e.2]; exact (by (try delta up); (try delta cpy); (try dsimp only); repeat (first | rw [if_pos (by omega)] | rw [if_neg (by omega)]); try (first | rfl | assumption | omega))); exact (by (try delta up); (try delta cpy); (try dsimp only); repeat (first | rw [if_pos (by omega)] | rw [if_neg (by omega)]); try (first | rfl | assumption | omega)))) (fun k i b => by (try delta up); (try delta cpy); (try dsimp only); repeat (first | rw [if_pos (by omega)] | rw [if_neg (by omega)]); try (first | rfl | assumption | omega)), fun k i b => by (try delta up); (try delta cpy); (try dsimp only); repeat (first | rw [if_pos (by omega)] | rw [if_neg (by omega)]); try (first | rfl | assumption | omega)⟩
            · refine r_iload_n (Y := YX9_monk) dX9_monk_74 rfl ?_
              refine r_goto (Y := YX9_monk) (tgt := 84) dX9_monk_75 (by decide) ?_
              refine r_iastore (Y := YX9_monk) dX9_monk_84 ?_
              refine r_aload_n (Y := YX9_monk) dX9_monk_85 rfl ?_
              refine r_getR (Y := YX9_monk) (δz := 2) fl_X9_13 dX9_monk_86 rfl rfl ?_
              refine r_iload_n (Y := YX9_monk) dX9_monk_89 rfl ?_
              refine r_iload_n (Y := YX9_monk) dX9_monk_90 rfl ?_
              refine r_iconst (Y := YX9_monk) dX9_monk_91 ?_
              refine r_icmp_ne (Y := YX9_monk) (tgt := 99) dX9_monk_92 (by decide) (fun c92 => ?_) (fun c92 => ?_) 
              · refine r_aload_n (Y := YX9_monk) dX9_monk_99 rfl ?_
                refine r_getR (Y := YX9_monk) (δz := 2) fl_X9_13 dX9_monk_100 rfl rfl ?_
                refine r_iload_n (Y := YX9_monk) dX9_monk_103 rfl ?_
                refine r_iaload (Y := YX9_monk) dX9_monk_104 ?_
                refine r_iastore (Y := YX9_monk) dX9_monk_105 ?_
                refine r_iload (Y := YX9_monk) dX9_monk_106 rfl ?_
                refine r_ireturn (Y := YX9_monk) dX9_monk_108 ?_
                first
                  | (exfalso; omega)
                  | skip
                all_goals (unfold monkF)
                all_goals ((repeat (first | rw [if_pos (by omega)] | rw [if_neg (by omega)])))
                all_goals first
                  | exact ⟨hA.1 p (by omega) (by omega), hM.abb (MM_setH hA (by (try delta up); (try delta cpy); (try dsimp only); repeat (first | rw [if_pos (by omega)] | rw [if_neg (by omega)]); try (first | rfl | assumption | omega)) (fun k i a b => by by_cases e : k = m + 2 ∧ i = p; (rw [e.1, e.2]; exact (by (try delta up); (try delta cpy); (try dsimp only); repeat (first | rw [if_pos (by omega)] | rw [if_neg (by omega)]); try (first | rfl | assumption | omega))); exact (by (try delta up); (try delta cpy); (try dsimp only); repeat (first | rw [if_pos (by omega)] | rw [if_neg (by omega)]); try (first | rfl | assumption | omega)))) (fun k i b => by (try delta up); (try delta cpy); (try dsimp only); repeat (first | rw [if_pos (by omega)] | rw [if_neg (by omega)]); try (first | rfl | assumption | omega)), fun k i b => by (try delta up); (try delta cpy); (try dsimp only); repeat (first | rw [if_pos (by omega)] | rw [if_neg (by omega)]); try (first | rfl | assumption | omega)⟩
                  | exact ⟨hA.2.1 p (by omega) (by omega), hM.abb (MM_setS hA (by (try delta up); (try delta cpy); (try dsimp only); repeat (first | rw [if_pos (by omega)] | rw [if_neg (by omega)]); try (first | rfl | assumption | omega)) (fun k i a b => by by_cases e : k = m + 1 ∧ i = p; (rw [e.1, e.2]; exact (by (try delta up); (try delta cpy); (try dsimp only); repeat (first | rw [if_pos (by omega)] | rw [if_neg (by omega)]); try (first | rfl | assumption | omega))); exact (by (try delta up); (try delta cpy); (try dsimp only); repeat (first | rw [if_pos (by omega)] | rw [if_neg (by omega)]); try (first | rfl | assumption | omega)))) (fun k i b => by (try delta up); (try delta cpy); (try dsimp only); repeat (first | rw [if_pos (by omega)] | rw [if_neg (by omega)]); try (first | rfl | assumption | omega)), fun k i b => by (try delta up); (try delta cpy); (try dsimp only); repeat (first | rw [if_pos (by omega)] | rw [if_neg (by omega)]); try (first | rfl | assumption | omega)⟩
              · refine r_iload_n (Y := YX9_monk) dX9_monk_95 rfl ?_
                refine r_goto (Y := YX9_monk) (tgt := 105) dX9_monk_96 (by decide) ?_
                refine r_iastore (Y := YX9_monk) dX9_monk_105 ?_
                refine r_iload (Y := YX9_monk) dX9_monk_106 rfl ?_
                refine r_ireturn (Y := YX9_monk) dX9_monk_108 ?_
                first
                  | (exfalso; omega)
                  | skip
                all_goals (unfold monkF)
                all_goals ((repeat (first | rw [if_pos (by omega)] | rw [if_neg (by omega)])))
                all_goals first
                  | exact ⟨hA.1 p (by omega) (by omega), hM.abb (MM_setH hA (by (try delta up); (try delta cpy); (try dsimp only); repeat (first | rw [if_pos (by omega)] | rw [if_neg (by omega)]); try (first | rfl | assumption | omega)) (fun k i a b => by by_cases e : k = m + 2 ∧ i = p; (rw [e.1, e.2]; exact (by (try delta up); (try delta cpy); (try dsimp only); repeat (first | rw [if_pos (by omega)] | rw [if_neg (by omega)]); try (first | rfl | assumption | omega))); exact (by (try delta up); (try delta cpy); (try dsimp only); repeat (first | rw [if_pos (by omega)] | rw [if_neg (by omega)]); try (first | rfl | assumption | omega)))) (fun k i b => by (try delta up); (try delta cpy); (try dsimp only); repeat (first | rw [if_pos (by omega)] | rw [if_neg (by omega)]); try (first | rfl | assumption | omega)), fun k i b => by (try delta up); (try delta cpy); (try dsimp only); repeat (first | rw [if_pos (by omega)] | rw [if_neg (by omega)]); try (first | rfl | assumption | omega)⟩
                  | exact ⟨hA.2.1 p (by omega) (by omega), hM.abb (MM_setS hA (by (try delta up); (try delta cpy); (try dsimp only); repeat (first | rw [if_pos (by omega)] | rw [if_neg (by omega)]); try (first | rfl | assumption | omega)) (fun k i a b => by by_cases e : k = m + 1 ∧ i = p; (rw [e.1, e.2]; exact (by (try delta up); (try delta cpy); (try dsimp only); repeat (first | rw [if_pos (by omega)] | rw [if_neg (by omega)]); try (first | rfl | assumption | omega))); exact (by (try delta up); (try delta cpy); (try dsimp only); repeat (first | rw [if_pos (by omega)] | rw [if_neg (by omega)]); try (first | rfl | assumption | omega)))) (fun k i b => by (try delta up); (try delta cpy); (try dsimp only); repeat (first | rw [if_pos (by omega)] | rw [if_neg (by omega)]); try (first | rfl | assumption | omega)), fun k i b => by (try delta up); (try delta cpy); (try dsimp only); repeat (first | rw [if_pos (by omega)] | rw [if_neg (by omega)]); try (first | rfl | assumption | omega)⟩
          · refine r_aload_n (Y := YX9_monk) dX9_monk_48 rfl ?_
            refine r_getR (Y := YX9_monk) (δz := 1) fl_X9_7 dX9_monk_49 rfl rfl ?_
            refine r_iload_n (Y := YX9_monk) dX9_monk_52 rfl ?_
            refine r_iaload (Y := YX9_monk) dX9_monk_53 ?_
            refine r_goto (Y := YX9_monk) (tgt := 63) dX9_monk_54 (by decide) ?_
            refine r_istore (Y := YX9_monk) dX9_monk_63 ?_
            refine r_aload_n (Y := YX9_monk) dX9_monk_65 rfl ?_
            refine r_getR (Y := YX9_monk) (δz := 1) fl_X9_7 dX9_monk_66 rfl rfl ?_
            refine r_iload_n (Y := YX9_monk) dX9_monk_69 rfl ?_
            refine r_iload_n (Y := YX9_monk) dX9_monk_70 rfl ?_
            refine r_if_ne (Y := YX9_monk) (tgt := 78) dX9_monk_71 (by decide) (fun c71 => ?_) (fun c71 => ?_) 
            · refine r_aload_n (Y := YX9_monk) dX9_monk_78 rfl ?_
              refine r_getR (Y := YX9_monk) (δz := 1) fl_X9_7 dX9_monk_79 rfl rfl ?_
              refine r_iload_n (Y := YX9_monk) dX9_monk_82 rfl ?_
              refine r_iaload (Y := YX9_monk) dX9_monk_83 ?_
              refine r_iastore (Y := YX9_monk) dX9_monk_84 ?_
              refine r_aload_n (Y := YX9_monk) dX9_monk_85 rfl ?_
              refine r_getR (Y := YX9_monk) (δz := 2) fl_X9_13 dX9_monk_86 rfl rfl ?_
              refine r_iload_n (Y := YX9_monk) dX9_monk_89 rfl ?_
              refine r_iload_n (Y := YX9_monk) dX9_monk_90 rfl ?_
              refine r_iconst (Y := YX9_monk) dX9_monk_91 ?_
              refine r_icmp_ne (Y := YX9_monk) (tgt := 99) dX9_monk_92 (by decide) (fun c92 => ?_) (fun c92 => ?_) 
              · refine r_aload_n (Y := YX9_monk) dX9_monk_99 rfl ?_
                refine r_getR (Y := YX9_monk) (δz := 2) fl_X9_13 dX9_monk_100 rfl rfl ?_
                refine r_iload_n (Y := YX9_monk) dX9_monk_103 rfl ?_
                refine r_iaload (Y := YX9_monk) dX9_monk_104 ?_
                refine r_iastore (Y := YX9_monk) dX9_monk_105 ?_
                refine r_iload (Y := YX9_monk) dX9_monk_106 rfl ?_
                refine r_ireturn (Y := YX9_monk) dX9_monk_108 ?_
                first
                  | (exfalso; omega)
                  | skip
                all_goals (unfold monkF)
                all_goals ((repeat (first | rw [if_pos (by omega)] | rw [if_neg (by omega)])))
                all_goals first
                  | exact ⟨hA.1 p (by omega) (by omega), hM.abb (MM_setH hA (by (try delta up); (try delta cpy); (try dsimp only); repeat (first | rw [if_pos (by omega)] | rw [if_neg (by omega)]); try (first | rfl | assumption | omega)) (fun k i a b => by by_cases e : k = m + 2 ∧ i = p; (rw [e.1, e.2]; exact (by (try delta up); (try delta cpy); (try dsimp only); repeat (first | rw [if_pos (by omega)] | rw [if_neg (by omega)]); try (first | rfl | assumption | omega))); exact (by (try delta up); (try delta cpy); (try dsimp only); repeat (first | rw [if_pos (by omega)] | rw [if_neg (by omega)]); try (first | rfl | assumption | omega)))) (fun k i b => by (try delta up); (try delta cpy); (try dsimp only); repeat (first | rw [if_pos (by omega)] | rw [if_neg (by omega)]); try (first | rfl | assumption | omega)), fun k i b => by (try delta up); (try delta cpy); (try dsimp only); repeat (first | rw [if_pos (by omega)] | rw [if_neg (by omega)]); try (first | rfl | assumption | omega)⟩
                  | exact ⟨hA.2.1 p (by omega) (by omega), hM.abb (MM_setS hA (by (try delta up); (try delta cpy); (try dsimp only); repeat (first | rw [if_pos (by omega)] | rw [if_neg (by omega)]); try (first | rfl | assumption | omega)) (fun k i a b => by by_cases e : k = m + 1 ∧ i = p; (rw [e.1, e.2]; exact (by (try delta up); (try delta cpy); (try dsimp only); repeat (first | rw [if_pos (by omega)] | rw [if_neg (by omega)]); try (first | rfl | assumption | omega))); exact (by (try delta up); (try delta cpy); (try dsimp only); repeat (first | rw [if_pos (by omega)] | rw [if_neg (by omega)]); try (first | rfl | assumption | omega)))) (fun k i b => by (try delta up); (try delta cpy); (try dsimp only); repeat (first | rw [if_pos (by omega)] | rw [if_neg (by omega)]); try (first | rfl | assumption | omega)), fun k i b => by (try delta up); (try delta cpy); (try dsimp only); repeat (first | rw [if_pos (by omega)] | rw [if_neg (by omega)]); try (first | rfl | assumption | omega)⟩
              · refine r_iload_n (Y := YX9_monk) dX9_monk_95 rfl ?_
                refine r_goto (Y := YX9_monk) (tgt := 105) dX9_monk_96 (by decide) ?_
                refine r_iastore (Y := YX9_monk) dX9_monk_105 ?_
                refine r_iload (Y := YX9_monk) dX9_monk_106 rfl ?_
                refine r_ireturn (Y := YX9_monk) dX9_monk_108 ?_
                first
                  | (exfalso; omega)
                  | skip
                all_goals (unfold monkF)
                all_goals ((repeat (first | rw [if_pos (by omega)] | rw [if_neg (by omega)])))
                all_goals first
                  | exact ⟨hA.1 p (by omega) (by omega), hM.abb (MM_setH hA (by (try delta up); (try delta cpy); (try dsimp only); repeat (first | rw [if_pos (by omega)] | rw [if_neg (by omega)]); try (first | rfl | assumption | omega)) (fun k i a b => by by_cases e : k = m + 2 ∧ i = p; (rw [e.1, e.2]; exact (by (try delta up); (try delta cpy); (try dsimp only); repeat (first | rw [if_pos (by omega)] | rw [if_neg (by omega)]); try (first | rfl | assumption | omega))); exact (by (try delta up); (try delta cpy); (try dsimp only); repeat (first | rw [if_pos (by omega)] | rw [if_neg (by omega)]); try (first | rfl | assumption | omega)))) (fun k i b => by (try delta up); (try delta cpy); (try dsimp only); repeat (first | rw [if_pos (by omega)] | rw [if_neg (by omega)]); try (first | rfl | assumption | omega)), fun k i b => by (try delta up); (try delta cpy); (try dsimp only); repeat (first | rw [if_pos (by omega)] | rw [if_neg (by omega)]); try (first | rfl | assumption | omega)⟩
                  | exact ⟨hA.2.1 p (by omega) (by omega), hM.abb (MM_setS hA (by (try delta up); (try delta cpy); (try dsimp only); repeat (first | rw [if_pos (by omega)] | rw [if_neg (by omega)]); try (first | rfl | assumption | omega)) (fun k i a b => by by_cases e : k = m + 1 ∧ i = p; (rw [e.1, e.2]; exact (by (try delta up); (try delta cpy); (try dsimp only); repeat (first | rw [if_pos (by omega)] | rw [if_neg (by omega)]); try (first | rfl | assumption | omega))); exact (by (try delta up); (try delta cpy); (try dsimp only); repeat (first | rw [if_pos (by omega)] | rw [if_neg (by omega)]); try (first | rfl | assumption | omega)))) (fun k i b => by (try delta up); (try delta cpy); (try dsimp only); repeat (first | rw [if_pos (by omega)] | rw [if_neg (by omega)]); try (first | rfl | assumption | omega)), fun k i b => by (try delta up); (try delta cpy); (try dsimp only); repeat (first | rw [if_pos (by omega)] | rw [if_neg (by omega)]); try (first | rfl | assumption | omega)⟩
            · refine r_iload_n (Y := YX9_monk) dX9_monk_74 rfl ?_
              refine r_goto (Y := YX9_monk) (tgt := 84) dX9_monk_75 (by decide) ?_
              refine r_iastore (Y := YX9_monk) dX9_monk_84 ?_
              refine r_aload_n (Y := YX9_monk) dX9_monk_85 rfl ?_
              refine r_getR (Y := YX9_monk) (δz := 2) fl_X9_13 dX9_monk_86 rfl rfl ?_
              refine r_iload_n (Y := YX9_monk) dX9_monk_89 rfl ?_
              refine r_iload_n (Y := YX9_monk) dX9_monk_90 rfl ?_
              refine r_iconst (Y := YX9_monk) dX9_monk_91 ?_
              refine r_icmp_ne (Y := YX9_monk) (tgt := 99) dX9_monk_92 (by decide) (fun c92 => ?_) (fun c92 => ?_) 
              · refine r_aload_n (Y := YX9_monk) dX9_monk_99 rfl ?_
                refine r_getR (Y := YX9_monk) (δz := 2) fl_X9_13 dX9_monk_100 rfl rfl ?_
                refine r_iload_n (Y := YX9_monk) dX9_monk_103 rfl ?_
                refine r_iaload (Y := YX9_monk) dX9_monk_104 ?_
                refine r_iastore (Y := YX9_monk) dX9_monk_105 ?_
                refine r_iload (Y := YX9_monk) dX9_monk_106 rfl ?_
                refine r_ireturn (Y := YX9_monk) dX9_monk_108 ?_
                first
                  | (exfalso; omega)
                  | skip
                all_goals (unfold monkF)
                all_goals ((repeat (first | rw [if_pos (by omega)] | rw [if_neg (by omega)])))
                all_goals first
                  | exact ⟨hA.1 p (by omega) (by omega), hM.abb (MM_setH hA (by (try delta up); (try delta cpy); (try dsimp only); repeat (first | rw [if_pos (by omega)] | rw [if_neg (by omega)]); try (first | rfl | assumption | omega)) (fun k i a b => by by_cases e : k = m + 2 ∧ i = p; (rw [e.1, e.2]; exact (by (try delta up); (try delta cpy); (try dsimp only); repeat (first | rw [if_pos (by omega)] | rw [if_neg (by omega)]); try (first | rfl | assumption | omega))); exact (by (try delta up); (try delta cpy); (try dsimp only); repeat (first | rw [if_pos (by omega)] | rw [if_neg (by omega)]); try (first | rfl | assumption | omega)))) (fun k i b => by (try delta up); (try delta cpy); (try dsimp only); repeat (first | rw [if_pos (by omega)] | rw [if_neg (by omega)]); try (first | rfl | assumption | omega)), fun k i b => by (try delta up); (try delta cpy); (try dsimp only); repeat (first | rw [if_pos (by omega)] | rw [if_neg (by omega)]); try (first | rfl | assumption | omega)⟩
                  | exact ⟨hA.2.1 p (by omega) (by omega), hM.abb (MM_setS hA (by (try delta up); (try delta cpy); (try dsimp only); repeat (first | rw [if_pos (by omega)] | rw [if_neg (by omega)]); try (first | rfl | assumption | omega)) (fun k i a b => by by_cases e : k = m + 1 ∧ i = p; (rw [e.1, e.2]; exact (by (try delta up); (try delta cpy); (try dsimp only); repeat (first | rw [if_pos (by omega)] | rw [if_neg (by omega)]); try (first | rfl | assumption | omega))); exact (by (try delta up); (try delta cpy); (try dsimp only); repeat (first | rw [if_pos (by omega)] | rw [if_neg (by omega)]); try (first | rfl | assumption | omega)))) (fun k i b => by (try delta up); (try delta cpy); (try dsimp only); repeat (first | rw [if_pos (by omega)] | rw [if_neg (by omega)]); try (first | rfl | assumption | omega)), fun k i b => by (try delta up); (try delta cpy); (try dsimp only); repeat (first | rw [if_pos (by omega)] | rw [if_neg (by omega)]); try (first | rfl | assumption | omega)⟩
              · refine r_iload_n (Y := YX9_monk) dX9_monk_95 rfl ?_
                refine r_goto (Y := YX9_monk) (tgt := 105) dX9_monk_96 (by decide) ?_
                refine r_iastore (Y := YX9_monk) dX9_monk_105 ?_
                refine r_iload (Y := YX9_monk) dX9_monk_106 rfl ?_
                refine r_ireturn (Y := YX9_monk) dX9_monk_108 ?_
                first
                  | (exfalso; omega)
                  | skip
                all_goals (unfold monkF)
                all_goals ((repeat (first | rw [if_pos (by omega)] | rw [if_neg (by omega)])))
                all_goals first
                  | exact ⟨hA.1 p (by omega) (by omega), hM.abb (MM_setH hA (by (try delta up); (try delta cpy); (try dsimp only); repeat (first | rw [if_pos (by omega)] | rw [if_neg (by omega)]); try (first | rfl | assumption | omega)) (fun k i a b => by by_cases e : k = m + 2 ∧ i = p; (rw [e.1, e.2]; exact (by (try delta up); (try delta cpy); (try dsimp only); repeat (first | rw [if_pos (by omega)] | rw [if_neg (by omega)]); try (first | rfl | assumption | omega))); exact (by (try delta up); (try delta cpy); (try dsimp only); repeat (first | rw [if_pos (by omega)] | rw [if_neg (by omega)]); try (first | rfl | assumption | omega)))) (fun k i b => by (try delta up); (try delta cpy); (try dsimp only); repeat (first | rw [if_pos (by omega)] | rw [if_neg (by omega)]); try (first | rfl | assumption | omega)), fun k i b => by (try delta up); (try delta cpy); (try dsimp only); repeat (first | rw [if_pos (by omega)] | rw [if_neg (by omega)]); try (first | rfl | assumption | omega)⟩
                  | exact ⟨hA.2.1 p (by omega) (by omega), hM.abb (MM_setS hA (by (try delta up); (try delta cpy); (try dsimp only); repeat (first | rw [if_pos (by omega)] | rw [if_neg (by omega)]); try (first | rfl | assumption | omega)) (fun k i a b => by by_cases e : k = m + 1 ∧ i = p; (rw [e.1, e.2]; exact (by (try delta up); (try delta cpy); (try dsimp only); repeat (first | rw [if_pos (by omega)] | rw [if_neg (by omega)]); try (first | rfl | assumption | omega))); exact (by (try delta up); (try delta cpy); (try dsimp only); repeat (first | rw [if_pos (by omega)] | rw [if_neg (by omega)]); try (first | rfl | assumption | omega)))) (fun k i b => by (try delta up); (try delta cpy); (try dsimp only); repeat (first | rw [if_pos (by omega)] | rw [if_neg (by omega)]); try (first | rfl | assumption | omega)), fun k i b => by (try delta up); (try delta cpy); (try dsimp only); repeat (first | rw [if_pos (by omega)] | rw [if_neg (by omega)]); try (first | rfl | assumption | omega)⟩
        · refine r_bipush (Y := YX9_monk) dX9_monk_41 ?_
          refine r_ireturn (Y := YX9_monk) dX9_monk_43 ?_
          first
            | (exfalso; omega)
            | (unfold monkF; (repeat (first | rw [if_pos (by omega)] | rw [if_neg (by omega)])); exact ⟨rfl, hM, fun _ _ _ => rfl⟩)
  · refine r_iconst (Y := YX9_monk) dX9_monk_7 ?_
    refine r_ireturn (Y := YX9_monk) dX9_monk_8 ?_
    first
      | (exfalso; omega)
      | (unfold monkF; (repeat (first | rw [if_pos (by omega)] | rw [if_neg (by omega)])); exact ⟨rfl, hM, fun _ _ _ => rfl⟩)
set_option maxRecDepth 20000 in
theorem c_X9_wear {σ : ab_S} {m : Int} {G : GS} (hm : kd_ m 9 37) (hM : HM σ m G) (hG : OKG G) {v : Int} (hv1 : -2147483648 ≤ v) (hv2 : v ≤ 2147483647) : C2 YX9_wear 1 σ [rf m, iv v] (PI fun σ' z => z = (wearF G v).1 ∧ HM σ' m (wearF G v).2 ∧ FY σ σ' m) := by
  obtain ⟨k1, k2, k3, k4, k5, k6, k7, k8, k9, k10, k11, k12, k13, k14, k15, k16, k17, k18, k19, k20, k21, k22, k23, k24, k25, k26⟩ := kd_model hm
  have hA := hM.1
  have hW := hG.1.1.1
  have hWL := hG.1.1.2
  refine C2.of (by decide +kernel) (Nat.le_of_ble_eq_true rfl) ?_
  refine r_iload_n (Y := YX9_wear) dX9_wear_0 rfl ?_
  refine r_i2l (Y := YX9_wear) dX9_wear_1 ?_
  refine r_lconst (Y := YX9_wear) (v := 0) dX9_wear_2 rfl ?_
  refine r_ldc2 (Y := YX9_wear) (z := 9) wc_X9_124 dX9_wear_3 (by decide) ?_
  refine r_iS3I (Y := YX9_wear) ms_X9_95 dX9_wear_6 (c_in (by omega) (by omega) (by omega) (by omega) (by omega) (by omega)) (fun σ6 z6 h6 => ?_)
  obtain ⟨rfl, h6⟩ := h6
  refine r_if_ne (Y := YX9_wear) (tgt := 15) dX9_wear_9 (by decide) (fun c9 => ?_) (fun c9 => ?_) 
  · refine r_aload_n (Y := YX9_wear) dX9_wear_15 rfl ?_
    refine r_getV (Y := YX9_wear) (v := aWr G.1.1) (jz := 8) fl_X9_89 dX9_wear_16 (hA.2.2.2.2.2.1) ?_
    refine r_istore_n (Y := YX9_wear) dX9_wear_19 ?_
    refine r_aload_n (Y := YX9_wear) dX9_wear_20 rfl ?_
    refine r_iload_n (Y := YX9_wear) dX9_wear_21 rfl ?_
    refine r_putI (Y := YX9_wear) (jz := 8) fp_X9_89 dX9_wear_22 ?_
    refine r_iload_n (Y := YX9_wear) dX9_wear_25 rfl ?_
    refine r_ireturn (Y := YX9_wear) dX9_wear_26 ?_
    first
      | (exfalso; omega)
      | (unfold wearF; (repeat (first | rw [if_pos (by omega)] | rw [if_neg (by omega)])); exact ⟨rfl, hM.abb (MM_setWr hA (up_same _ _ _ _) (fun k i b => by (try delta up); (try delta cpy); (try dsimp only); repeat (first | rw [if_pos (by omega)] | rw [if_neg (by omega)]); try (first | rfl | assumption | omega))) (fun k i b => by (try delta up); (try delta cpy); (try dsimp only); repeat (first | rw [if_pos (by omega)] | rw [if_neg (by omega)]); try (first | rfl | assumption | omega)), fun k i b => by (try delta up); (try delta cpy); (try dsimp only); repeat (first | rw [if_pos (by omega)] | rw [if_neg (by omega)]); try (first | rfl | assumption | omega)⟩)
  · refine r_bipush (Y := YX9_wear) dX9_wear_12 ?_
    refine r_ireturn (Y := YX9_wear) dX9_wear_14 ?_
    first
      | (exfalso; omega)
      | (unfold wearF; (repeat (first | rw [if_pos (by omega)] | rw [if_neg (by omega)])); exact ⟨rfl, hM, fun _ _ _ => rfl⟩)
set_option maxRecDepth 20000 in
theorem c_X9_say {σ : ab_S} {m : Int} {G : GS} (hm : kd_ m 9 37) (hM : HM σ m G) (hG : OKG G) {s : Int} (hs1 : -2147483648 ≤ s) (hs2 : s ≤ 2147483647) : C2 YX9_say 1 σ [rf m, iv s] (PI fun σ' z => z = (sayF G s).1 ∧ HM σ' m (sayF G s).2 ∧ FY σ σ' m) := by
  obtain ⟨k1, k2, k3, k4, k5, k6, k7, k8, k9, k10, k11, k12, k13, k14, k15, k16, k17, k18, k19, k20, k21, k22, k23, k24, k25, k26⟩ := kd_model hm
  have hA := hM.1
  have hW := hG.1.1.1
  have hWL := hG.1.1.2
  have hP := hM.2.2.2.1
  have hL := hG.2.1.1
  refine C2.of (by decide +kernel) (Nat.le_of_ble_eq_true rfl) ?_
  refine r_iload_n (Y := YX9_say) dX9_say_0 rfl ?_
  refine r_i2l (Y := YX9_say) dX9_say_1 ?_
  refine r_ldc2 (Y := YX9_say) (z := 33) wc_X9_126 dX9_say_2 (by decide) ?_
  refine r_ldc2 (Y := YX9_say) (z := 126) wc_X9_128 dX9_say_5 (by decide) ?_
  refine r_iS3I (Y := YX9_say) ms_X9_95 dX9_say_8 (c_in (by omega) (by omega) (by omega) (by omega) (by omega) (by omega)) (fun σ8 z8 h8 => ?_)
  obtain ⟨rfl, h8⟩ := h8
  refine r_if_ne (Y := YX9_say) (tgt := 17) dX9_say_11 (by decide) (fun c11 => ?_) (fun c11 => ?_) 
  · refine r_aload_n (Y := YX9_say) dX9_say_17 rfl ?_
    refine r_getV (Y := YX9_say) (v := (G.2.1.length : Int)) (jz := 25) fl_X9_130 dX9_say_18 (hP.1) ?_
    refine r_bipush (Y := YX9_say) dX9_say_21 ?_
    refine r_icmp_ne (Y := YX9_say) (tgt := 29) dX9_say_23 (by decide) (fun c23 => ?_) (fun c23 => ?_) 
    · refine r_aload_n (Y := YX9_say) dX9_say_29 rfl ?_
      refine r_getR (Y := YX9_say) (δz := 20) fl_X9_67 dX9_say_30 rfl rfl ?_
      refine r_aload_n (Y := YX9_say) dX9_say_33 rfl ?_
      refine r_getV (Y := YX9_say) (v := (G.2.1.length : Int)) (jz := 25) fl_X9_130 dX9_say_34 (hP.1) ?_
      refine r_iload_n (Y := YX9_say) dX9_say_37 rfl ?_
      refine r_iastore (Y := YX9_say) dX9_say_38 ?_
      refine r_aload_n (Y := YX9_say) dX9_say_39 rfl ?_
      refine r_dup (Y := YX9_say) dX9_say_40 ?_
      refine r_getV (Y := YX9_say) (v := (G.2.1.length : Int)) (jz := 25) fl_X9_130 dX9_say_41 ((by rw [← hP.1]; exact (by (try delta up); (try delta cpy); (try dsimp only); repeat (first | rw [if_pos (by omega)] | rw [if_neg (by omega)]); try (first | rfl | assumption | omega)))) ?_
      refine r_iconst (Y := YX9_say) dX9_say_44 ?_
      refine r_iadd (Y := YX9_say) dX9_say_45 ?_
      refine r_putI (Y := YX9_say) (jz := 25) fp_X9_130 dX9_say_46 ?_
      refine r_aload_n (Y := YX9_say) dX9_say_49 rfl ?_
      refine r_getV (Y := YX9_say) (v := (G.2.1.length : Int) + 1) (jz := 25) fl_X9_130 dX9_say_50 (up_same _ _ _ _) ?_
      refine r_ireturn (Y := YX9_say) dX9_say_53 ?_
      unfold sayF
      (repeat (first | rw [if_pos (by omega)] | rw [if_neg (by omega)]))
      refine ⟨rfl, hM.padd ⟨?_, fun i v hv => ?_⟩ (fun k i b => by (try delta up); (try delta cpy); (try dsimp only); repeat (first | rw [if_pos (by omega)] | rw [if_neg (by omega)]); try (first | rfl | assumption | omega)), fun k i b => by (try delta up); (try delta cpy); (try dsimp only); repeat (first | rw [if_pos (by omega)] | rw [if_neg (by omega)]); try (first | rfl | assumption | omega)⟩
      · rw [List.length_append, List.length_singleton]; exact up_same _ _ _ _
      · by_cases hi : i < G.2.1.length
        · rw [List.getElem?_append_left hi] at hv
          rw [← hP.2 i v hv]; exact (by (try delta up); (try delta cpy); (try dsimp only); repeat (first | rw [if_pos (by omega)] | rw [if_neg (by omega)]); try (first | rfl | assumption | omega))
        · have hi2 := (List.getElem?_eq_some_iff.mp hv).1
          rw [List.length_append, List.length_singleton] at hi2
          have hi3 : i = G.2.1.length := by omega
          rw [List.getElem?_append_right (by omega), hi3, Nat.sub_self] at hv
          have e : s = v := Option.some.inj hv
          rw [← e, hi3]; exact (by (try delta up); (try delta cpy); (try dsimp only); repeat (first | rw [if_pos (by omega)] | rw [if_neg (by omega)]); try (first | rfl | assumption | omega))
    · refine r_bipush (Y := YX9_say) dX9_say_26 ?_
      refine r_ireturn (Y := YX9_say) dX9_say_28 ?_
      first
        | (exfalso; omega)
        | (unfold sayF; (repeat (first | rw [if_pos (by omega)] | rw [if_neg (by omega)])); exact ⟨rfl, hM, fun _ _ _ => rfl⟩)
  · refine r_bipush (Y := YX9_say) dX9_say_14 ?_
    refine r_ireturn (Y := YX9_say) dX9_say_16 ?_
    first
      | (exfalso; omega)
      | (unfold sayF; (repeat (first | rw [if_pos (by omega)] | rw [if_neg (by omega)])); exact ⟨rfl, hM, fun _ _ _ => rfl⟩)
set_option maxRecDepth 20000 in
theorem c_X9_wipe {σ : ab_S} {m : Int} {G : GS} (hm : kd_ m 9 37) (hM : HM σ m G) (hG : OKG G)  : C2 YX9_wipe 0 σ [rf m] (PI fun σ' z => z = (wipeF G).1 ∧ HM σ' m (wipeF G).2 ∧ FY σ σ' m) := by
  obtain ⟨k1, k2, k3, k4, k5, k6, k7, k8, k9, k10, k11, k12, k13, k14, k15, k16, k17, k18, k19, k20, k21, k22, k23, k24, k25, k26⟩ := kd_model hm
  have hA := hM.1
  have hW := hG.1.1.1
  have hWL := hG.1.1.2
  refine C2.of (by decide +kernel) (Nat.le_of_ble_eq_true rfl) ?_
  refine r_aload_n (Y := YX9_wipe) dX9_wipe_0 rfl ?_
  refine r_getV (Y := YX9_wipe) (v := (G.2.1.length : Int)) (jz := 25) fl_X9_130 dX9_wipe_1 (hM.2.2.2.1.1) ?_
  refine r_istore_n (Y := YX9_wipe) dX9_wipe_4 ?_
  refine r_aload_n (Y := YX9_wipe) dX9_wipe_5 rfl ?_
  refine r_iconst (Y := YX9_wipe) dX9_wipe_6 ?_
  refine r_putI (Y := YX9_wipe) (jz := 25) fp_X9_130 dX9_wipe_7 ?_
  refine r_iload_n (Y := YX9_wipe) dX9_wipe_10 rfl ?_
  refine r_ireturn (Y := YX9_wipe) dX9_wipe_11 ?_
  exact ⟨rfl, hM.padd ⟨up_same _ _ _ _, fun i v hv => by cases hv⟩ (fun k i b => by (try delta up); (try delta cpy); (try dsimp only); repeat (first | rw [if_pos (by omega)] | rw [if_neg (by omega)]); try (first | rfl | assumption | omega)), fun k i b => by (try delta up); (try delta cpy); (try dsimp only); repeat (first | rw [if_pos (by omega)] | rw [if_neg (by omega)]); try (first | rfl | assumption | omega)⟩
set_option maxRecDepth 20000 in
theorem c_X9_drop {σ : ab_S} {m : Int} {G : GS} (hm : kd_ m 9 37) (hM : HM σ m G) (hG : OKG G)  : C2 YX9_drop 0 σ [rf m] (PI fun σ' z => z = (dropF G).1 ∧ HM σ' m (dropF G).2 ∧ FY σ σ' m) := by
  obtain ⟨k1, k2, k3, k4, k5, k6, k7, k8, k9, k10, k11, k12, k13, k14, k15, k16, k17, k18, k19, k20, k21, k22, k23, k24, k25, k26⟩ := kd_model hm
  have hA := hM.1
  have hW := hG.1.1.1
  have hWL := hG.1.1.2
  refine C2.of (by decide +kernel) (Nat.le_of_ble_eq_true rfl) ?_
  refine r_aload_n (Y := YX9_drop) dX9_drop_0 rfl ?_
  refine r_getV (Y := YX9_drop) (v := (G.1.2.1.length : Int)) (jz := 12) fl_X9_206 dX9_drop_1 (hM.2.1.1) ?_
  refine r_istore_n (Y := YX9_drop) dX9_drop_4 ?_
  refine r_aload_n (Y := YX9_drop) dX9_drop_5 rfl ?_
  refine r_iconst (Y := YX9_drop) dX9_drop_6 ?_
  refine r_putI (Y := YX9_drop) (jz := 12) fp_X9_206 dX9_drop_7 ?_
  refine r_iload_n (Y := YX9_drop) dX9_drop_10 rfl ?_
  refine r_ireturn (Y := YX9_drop) dX9_drop_11 ?_
  exact ⟨rfl, hM.lo ⟨up_same _ _ _ _, fun i v hv => by cases hv⟩ (fun k i b => by (try delta up); (try delta cpy); (try dsimp only); repeat (first | rw [if_pos (by omega)] | rw [if_neg (by omega)]); try (first | rfl | assumption | omega)), fun k i b => by (try delta up); (try delta cpy); (try dsimp only); repeat (first | rw [if_pos (by omega)] | rw [if_neg (by omega)]); try (first | rfl | assumption | omega)⟩
set_option maxRecDepth 20000 in
theorem c_X9_forget {σ : ab_S} {m : Int} {G : GS} (hm : kd_ m 9 37) (hM : HM σ m G) (hG : OKG G)  : C2 YX9_forget 0 σ [rf m] (PI fun σ' z => z = (forgetF G).1 ∧ HM σ' m (forgetF G).2 ∧ FY σ σ' m) := by
  obtain ⟨k1, k2, k3, k4, k5, k6, k7, k8, k9, k10, k11, k12, k13, k14, k15, k16, k17, k18, k19, k20, k21, k22, k23, k24, k25, k26⟩ := kd_model hm
  have hA := hM.1
  have hW := hG.1.1.1
  have hWL := hG.1.1.2
  refine C2.of (by decide +kernel) (Nat.le_of_ble_eq_true rfl) ?_
  refine r_aload_n (Y := YX9_forget) dX9_forget_0 rfl ?_
  refine r_getV (Y := YX9_forget) (v := (G.1.2.2.length : Int)) (jz := 15) fl_X9_234 dX9_forget_1 (hM.2.2.1.1) ?_
  refine r_istore_n (Y := YX9_forget) dX9_forget_4 ?_
  refine r_aload_n (Y := YX9_forget) dX9_forget_5 rfl ?_
  refine r_iconst (Y := YX9_forget) dX9_forget_6 ?_
  refine r_putI (Y := YX9_forget) (jz := 15) fp_X9_234 dX9_forget_7 ?_
  refine r_iload_n (Y := YX9_forget) dX9_forget_10 rfl ?_
  refine r_ireturn (Y := YX9_forget) dX9_forget_11 ?_
  exact ⟨rfl, hM.we ⟨up_same _ _ _ _, fun i v hv => by cases hv⟩ (fun k i b => by (try delta up); (try delta cpy); (try dsimp only); repeat (first | rw [if_pos (by omega)] | rw [if_neg (by omega)]); try (first | rfl | assumption | omega)), fun k i b => by (try delta up); (try delta cpy); (try dsimp only); repeat (first | rw [if_pos (by omega)] | rw [if_neg (by omega)]); try (first | rfl | assumption | omega)⟩
set_option maxRecDepth 20000 in
theorem c_X9_load {σ : ab_S} {m : Int} {G : GS} (hm : kd_ m 9 37) (hM : HM σ m G) (hG : OKG G) {u : Int} (hu1 : -2147483648 ≤ u) (hu2 : u ≤ 2147483647) {v : Int} (hv1 : -2147483648 ≤ v) (hv2 : v ≤ 2147483647) : C2 YX9_load 1 σ [rf m, iv u, iv v] (PI fun σ' z => z = (loadF G u v).1 ∧ HM σ' m (loadF G u v).2 ∧ FY σ σ' m) := by
  obtain ⟨k1, k2, k3, k4, k5, k6, k7, k8, k9, k10, k11, k12, k13, k14, k15, k16, k17, k18, k19, k20, k21, k22, k23, k24, k25, k26⟩ := kd_model hm
  have hA := hM.1
  have hW := hG.1.1.1
  have hWL := hG.1.1.2
  have hP := hM.2.1
  have hL := hWL.1
  refine C2.of (by decide +kernel) (Nat.le_of_ble_eq_true rfl) ?_
  refine r_iload_n (Y := YX9_load) dX9_load_0 rfl ?_
  refine r_i2l (Y := YX9_load) dX9_load_1 ?_
  refine r_lconst (Y := YX9_load) (v := 0) dX9_load_2 rfl ?_
  refine r_ldc2 (Y := YX9_load) (z := 9999) wc_X9_202 dX9_load_3 (by decide) ?_
  refine r_iS3I (Y := YX9_load) ms_X9_95 dX9_load_6 (c_in (by omega) (by omega) (by omega) (by omega) (by omega) (by omega)) (fun σ6 z6 h6 => ?_)
  obtain ⟨rfl, h6⟩ := h6
  refine r_if_eq (Y := YX9_load) (tgt := 24) dX9_load_9 (by decide) (fun c9 => ?_) (fun c9 => ?_) 
  · refine r_bipush (Y := YX9_load) dX9_load_24 ?_
    refine r_ireturn (Y := YX9_load) dX9_load_26 ?_
    first
      | (exfalso; omega)
      | (unfold loadF; (repeat (first | rw [if_pos (by omega)] | rw [if_neg (by omega)])); exact ⟨rfl, hM, fun _ _ _ => rfl⟩)
  · refine r_iload_n (Y := YX9_load) dX9_load_12 rfl ?_
    refine r_i2l (Y := YX9_load) dX9_load_13 ?_
    refine r_lconst (Y := YX9_load) (v := 0) dX9_load_14 rfl ?_
    refine r_ldc2 (Y := YX9_load) (z := 99) wc_X9_204 dX9_load_15 (by decide) ?_
    refine r_iS3I (Y := YX9_load) ms_X9_95 dX9_load_18 (c_in (by omega) (by omega) (by omega) (by omega) (by omega) (by omega)) (fun σ18 z18 h18 => ?_)
    obtain ⟨rfl, h18⟩ := h18
    refine r_if_ne (Y := YX9_load) (tgt := 27) dX9_load_21 (by decide) (fun c21 => ?_) (fun c21 => ?_) 
    · refine r_aload_n (Y := YX9_load) dX9_load_27 rfl ?_
      refine r_getV (Y := YX9_load) (v := (G.1.2.1.length : Int)) (jz := 12) fl_X9_206 dX9_load_28 (hP.1) ?_
      refine r_bipush (Y := YX9_load) dX9_load_31 ?_
      refine r_icmp_ne (Y := YX9_load) (tgt := 39) dX9_load_33 (by decide) (fun c33 => ?_) (fun c33 => ?_) 
      · refine r_aload_n (Y := YX9_load) dX9_load_39 rfl ?_
        refine r_getR (Y := YX9_load) (δz := 9) fl_X9_34 dX9_load_40 rfl rfl ?_
        refine r_aload_n (Y := YX9_load) dX9_load_43 rfl ?_
        refine r_getV (Y := YX9_load) (v := (G.1.2.1.length : Int)) (jz := 12) fl_X9_206 dX9_load_44 (hP.1) ?_
        refine r_iload_n (Y := YX9_load) dX9_load_47 rfl ?_
        refine r_iastore (Y := YX9_load) dX9_load_48 ?_
        refine r_aload_n (Y := YX9_load) dX9_load_49 rfl ?_
        refine r_getR (Y := YX9_load) (δz := 10) fl_X9_37 dX9_load_50 rfl rfl ?_
        refine r_aload_n (Y := YX9_load) dX9_load_53 rfl ?_
        refine r_getV (Y := YX9_load) (v := (G.1.2.1.length : Int)) (jz := 12) fl_X9_206 dX9_load_54 ((by rw [← hP.1]; exact (by (try delta up); (try delta cpy); (try dsimp only); repeat (first | rw [if_pos (by omega)] | rw [if_neg (by omega)]); try (first | rfl | assumption | omega)))) ?_
        refine r_iload_n (Y := YX9_load) dX9_load_57 rfl ?_
        refine r_iastore (Y := YX9_load) dX9_load_58 ?_
        refine r_aload_n (Y := YX9_load) dX9_load_59 rfl ?_
        refine r_dup (Y := YX9_load) dX9_load_60 ?_
        refine r_getV (Y := YX9_load) (v := (G.1.2.1.length : Int)) (jz := 12) fl_X9_206 dX9_load_61 ((by rw [← hP.1]; exact (by (try delta up); (try delta cpy); (try dsimp only); repeat (first | rw [if_pos (by omega)] | rw [if_neg (by omega)]); try (first | rfl | assumption | omega)))) ?_
        refine r_iconst (Y := YX9_load) dX9_load_64 ?_
        refine r_iadd (Y := YX9_load) dX9_load_65 ?_
        refine r_putI (Y := YX9_load) (jz := 12) fp_X9_206 dX9_load_66 ?_
        refine r_aload_n (Y := YX9_load) dX9_load_69 rfl ?_
        refine r_getV (Y := YX9_load) (v := (G.1.2.1.length : Int) + 1) (jz := 12) fl_X9_206 dX9_load_70 (up_same _ _ _ _) ?_
        refine r_ireturn (Y := YX9_load) dX9_load_73 ?_
        unfold loadF
        (repeat (first | rw [if_pos (by omega)] | rw [if_neg (by omega)]))
        refine ⟨rfl, hM.lo ⟨?_, fun i q hq => ?_⟩ (fun k i b => by (try delta up); (try delta cpy); (try dsimp only); repeat (first | rw [if_pos (by omega)] | rw [if_neg (by omega)]); try (first | rfl | assumption | omega)), fun k i b => by (try delta up); (try delta cpy); (try dsimp only); repeat (first | rw [if_pos (by omega)] | rw [if_neg (by omega)]); try (first | rfl | assumption | omega)⟩
        · rw [List.length_append, List.length_singleton]; exact up_same _ _ _ _
        · by_cases hi : i < G.1.2.1.length
          · rw [List.getElem?_append_left hi] at hq
            rw [← (hP.2 i q hq).1, ← (hP.2 i q hq).2]
            exact ⟨by (try delta up); (try delta cpy); (try dsimp only); repeat (first | rw [if_pos (by omega)] | rw [if_neg (by omega)]); try (first | rfl | assumption | omega), by (try delta up); (try delta cpy); (try dsimp only); repeat (first | rw [if_pos (by omega)] | rw [if_neg (by omega)]); try (first | rfl | assumption | omega)⟩
          · have hi2 := (List.getElem?_eq_some_iff.mp hq).1
            rw [List.length_append, List.length_singleton] at hi2
            have hi3 : i = G.1.2.1.length := by omega
            rw [List.getElem?_append_right (by omega), hi3, Nat.sub_self] at hq
            have e : (u, v) = q := Option.some.inj hq
            rw [← e, hi3]; exact ⟨by (try delta up); (try delta cpy); (try dsimp only); repeat (first | rw [if_pos (by omega)] | rw [if_neg (by omega)]); try (first | rfl | assumption | omega), by (try delta up); (try delta cpy); (try dsimp only); repeat (first | rw [if_pos (by omega)] | rw [if_neg (by omega)]); try (first | rfl | assumption | omega)⟩
      · refine r_bipush (Y := YX9_load) dX9_load_36 ?_
        refine r_ireturn (Y := YX9_load) dX9_load_38 ?_
        first
          | (exfalso; omega)
          | (unfold loadF; (repeat (first | rw [if_pos (by omega)] | rw [if_neg (by omega)])); exact ⟨rfl, hM, fun _ _ _ => rfl⟩)
    · refine r_bipush (Y := YX9_load) dX9_load_24 ?_
      refine r_ireturn (Y := YX9_load) dX9_load_26 ?_
      first
        | (exfalso; omega)
        | (unfold loadF; (repeat (first | rw [if_pos (by omega)] | rw [if_neg (by omega)])); exact ⟨rfl, hM, fun _ _ _ => rfl⟩)
set_option maxRecDepth 20000 in
theorem c_X9_weighed {σ : ab_S} {m : Int} {G : GS} (hm : kd_ m 9 37) (hM : HM σ m G) (hG : OKG G) {u : Int} (hu1 : -2147483648 ≤ u) (hu2 : u ≤ 2147483647) {v : Int} (hv1 : -2147483648 ≤ v) (hv2 : v ≤ 2147483647) : C2 YX9_weighed 1 σ [rf m, iv u, iv v] (PI fun σ' z => z = (weighF G u v).1 ∧ HM σ' m (weighF G u v).2 ∧ FY σ σ' m) := by
  obtain ⟨k1, k2, k3, k4, k5, k6, k7, k8, k9, k10, k11, k12, k13, k14, k15, k16, k17, k18, k19, k20, k21, k22, k23, k24, k25, k26⟩ := kd_model hm
  have hA := hM.1
  have hW := hG.1.1.1
  have hWL := hG.1.1.2
  have hP := hM.2.2.1
  have hL := hWL.2
  refine C2.of (by decide +kernel) (Nat.le_of_ble_eq_true rfl) ?_
  refine r_iload_n (Y := YX9_weighed) dX9_weighed_0 rfl ?_
  refine r_i2l (Y := YX9_weighed) dX9_weighed_1 ?_
  refine r_lconst (Y := YX9_weighed) (v := 1) dX9_weighed_2 rfl ?_
  refine r_ldc2 (Y := YX9_weighed) (z := 63) wc_X9_226 dX9_weighed_3 (by decide) ?_
  refine r_iS3I (Y := YX9_weighed) ms_X9_95 dX9_weighed_6 (c_in (by omega) (by omega) (by omega) (by omega) (by omega) (by omega)) (fun σ6 z6 h6 => ?_)
  obtain ⟨rfl, h6⟩ := h6
  refine r_if_eq (Y := YX9_weighed) (tgt := 24) dX9_weighed_9 (by decide) (fun c9 => ?_) (fun c9 => ?_) 
  · refine r_bipush (Y := YX9_weighed) dX9_weighed_24 ?_
    refine r_ireturn (Y := YX9_weighed) dX9_weighed_26 ?_
    first
      | (exfalso; omega)
      | (unfold weighF; (repeat (first | rw [if_pos (by omega)] | rw [if_neg (by omega)])); exact ⟨rfl, hM, fun _ _ _ => rfl⟩)
  · refine r_iload_n (Y := YX9_weighed) dX9_weighed_12 rfl ?_
    refine r_i2l (Y := YX9_weighed) dX9_weighed_13 ?_
    refine r_lconst (Y := YX9_weighed) (v := 0) dX9_weighed_14 rfl ?_
    refine r_ldc2 (Y := YX9_weighed) (z := 240) wc_X9_232 dX9_weighed_15 (by decide) ?_
    refine r_iS3I (Y := YX9_weighed) ms_X9_95 dX9_weighed_18 (c_in (by omega) (by omega) (by omega) (by omega) (by omega) (by omega)) (fun σ18 z18 h18 => ?_)
    obtain ⟨rfl, h18⟩ := h18
    refine r_if_ne (Y := YX9_weighed) (tgt := 27) dX9_weighed_21 (by decide) (fun c21 => ?_) (fun c21 => ?_) 
    · refine r_aload_n (Y := YX9_weighed) dX9_weighed_27 rfl ?_
      refine r_getV (Y := YX9_weighed) (v := (G.1.2.2.length : Int)) (jz := 15) fl_X9_234 dX9_weighed_28 (hP.1) ?_
      refine r_bipush (Y := YX9_weighed) dX9_weighed_31 ?_
      refine r_icmp_ne (Y := YX9_weighed) (tgt := 39) dX9_weighed_33 (by decide) (fun c33 => ?_) (fun c33 => ?_) 
      · refine r_aload_n (Y := YX9_weighed) dX9_weighed_39 rfl ?_
        refine r_getR (Y := YX9_weighed) (δz := 11) fl_X9_40 dX9_weighed_40 rfl rfl ?_
        refine r_aload_n (Y := YX9_weighed) dX9_weighed_43 rfl ?_
        refine r_getV (Y := YX9_weighed) (v := (G.1.2.2.length : Int)) (jz := 15) fl_X9_234 dX9_weighed_44 (hP.1) ?_
        refine r_iload_n (Y := YX9_weighed) dX9_weighed_47 rfl ?_
        refine r_iastore (Y := YX9_weighed) dX9_weighed_48 ?_
        refine r_aload_n (Y := YX9_weighed) dX9_weighed_49 rfl ?_
        refine r_getR (Y := YX9_weighed) (δz := 12) fl_X9_43 dX9_weighed_50 rfl rfl ?_
        refine r_aload_n (Y := YX9_weighed) dX9_weighed_53 rfl ?_
        refine r_getV (Y := YX9_weighed) (v := (G.1.2.2.length : Int)) (jz := 15) fl_X9_234 dX9_weighed_54 ((by rw [← hP.1]; exact (by (try delta up); (try delta cpy); (try dsimp only); repeat (first | rw [if_pos (by omega)] | rw [if_neg (by omega)]); try (first | rfl | assumption | omega)))) ?_
        refine r_iload_n (Y := YX9_weighed) dX9_weighed_57 rfl ?_
        refine r_iastore (Y := YX9_weighed) dX9_weighed_58 ?_
        refine r_aload_n (Y := YX9_weighed) dX9_weighed_59 rfl ?_
        refine r_dup (Y := YX9_weighed) dX9_weighed_60 ?_
        refine r_getV (Y := YX9_weighed) (v := (G.1.2.2.length : Int)) (jz := 15) fl_X9_234 dX9_weighed_61 ((by rw [← hP.1]; exact (by (try delta up); (try delta cpy); (try dsimp only); repeat (first | rw [if_pos (by omega)] | rw [if_neg (by omega)]); try (first | rfl | assumption | omega)))) ?_
        refine r_iconst (Y := YX9_weighed) dX9_weighed_64 ?_
        refine r_iadd (Y := YX9_weighed) dX9_weighed_65 ?_
        refine r_putI (Y := YX9_weighed) (jz := 15) fp_X9_234 dX9_weighed_66 ?_
        refine r_aload_n (Y := YX9_weighed) dX9_weighed_69 rfl ?_
        refine r_getV (Y := YX9_weighed) (v := (G.1.2.2.length : Int) + 1) (jz := 15) fl_X9_234 dX9_weighed_70 (up_same _ _ _ _) ?_
        refine r_ireturn (Y := YX9_weighed) dX9_weighed_73 ?_
        unfold weighF
        (repeat (first | rw [if_pos (by omega)] | rw [if_neg (by omega)]))
        refine ⟨rfl, hM.we ⟨?_, fun i q hq => ?_⟩ (fun k i b => by (try delta up); (try delta cpy); (try dsimp only); repeat (first | rw [if_pos (by omega)] | rw [if_neg (by omega)]); try (first | rfl | assumption | omega)), fun k i b => by (try delta up); (try delta cpy); (try dsimp only); repeat (first | rw [if_pos (by omega)] | rw [if_neg (by omega)]); try (first | rfl | assumption | omega)⟩
        · rw [List.length_append, List.length_singleton]; exact up_same _ _ _ _
        · by_cases hi : i < G.1.2.2.length
          · rw [List.getElem?_append_left hi] at hq
            rw [← (hP.2 i q hq).1, ← (hP.2 i q hq).2]
            exact ⟨by (try delta up); (try delta cpy); (try dsimp only); repeat (first | rw [if_pos (by omega)] | rw [if_neg (by omega)]); try (first | rfl | assumption | omega), by (try delta up); (try delta cpy); (try dsimp only); repeat (first | rw [if_pos (by omega)] | rw [if_neg (by omega)]); try (first | rfl | assumption | omega)⟩
          · have hi2 := (List.getElem?_eq_some_iff.mp hq).1
            rw [List.length_append, List.length_singleton] at hi2
            have hi3 : i = G.1.2.2.length := by omega
            rw [List.getElem?_append_right (by omega), hi3, Nat.sub_self] at hq
            have e : (u, v) = q := Option.some.inj hq
            rw [← e, hi3]; exact ⟨by (try delta up); (try delta cpy); (try dsimp only); repeat (first | rw [if_pos (by omega)] | rw [if_neg (by omega)]); try (first | rfl | assumption | omega), by (try delta up); (try delta cpy); (try dsimp only); repeat (first | rw [if_pos (by omega)] | rw [if_neg (by omega)]); try (first | rfl | assumption | omega)⟩
      · refine r_bipush (Y := YX9_weighed) dX9_weighed_36 ?_
        refine r_ireturn (Y := YX9_weighed) dX9_weighed_38 ?_
        first
          | (exfalso; omega)
          | (unfold weighF; (repeat (first | rw [if_pos (by omega)] | rw [if_neg (by omega)])); exact ⟨rfl, hM, fun _ _ _ => rfl⟩)
    · refine r_bipush (Y := YX9_weighed) dX9_weighed_24 ?_
      refine r_ireturn (Y := YX9_weighed) dX9_weighed_26 ?_
      first
        | (exfalso; omega)
        | (unfold weighF; (repeat (first | rw [if_pos (by omega)] | rw [if_neg (by omega)])); exact ⟨rfl, hM, fun _ _ _ => rfl⟩)
