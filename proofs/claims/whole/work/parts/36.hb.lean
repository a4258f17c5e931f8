/-! the component whole: what it holds -/
abbrev GS : Type := WH × List Int × (Int → Option WH)
def WX (H : WH) : Prop := WW H ∧ OKL H.2.1 ∧ OKW H.2.2
def OKG (G : GS) : Prop := WX G.1 ∧ WD G.2.1 ∧ ∀ (i : Int) (H : WH), G.2.2 i = some H → WX H
def HX (σ : ab_S) (x : Int) (G : GS) : Prop := RW σ (x + 3) G.1 ∧ RD σ (x + 1) G.2.1 ∧ (∀ i : Int, 0 ≤ i → i < 2 → (G.2.2 i = none ∧ σ (x + 94) i = 0) ∨ ∃ H, G.2.2 i = some H ∧ σ (x + 94) i = 1 ∧ RW σ (x + 33 + (1 + 30 * i)) H) ∧ σ (x + 255 + 1) 0 = 0 ∧ ZA σ (x + 255)
def setA (G : GS) (B : AB) : GS := ((B, G.1.2), G.2)
def FX (σ τ : ab_S) (x : Int) : Prop := ∀ k i : Int, k < x ∨ x + 258 < k → τ k i = σ k i
theorem HX.mk {σ τ : ab_S} {x : Int} {G : GS} {S : WH} {pd : List Int} (h : HX σ x G) (h1 : RW τ (x + 3) S) (h2 : RD τ (x + 1) pd) (hf : ∀ k i : Int, (x + 33 ≤ k ∧ k ≤ x + 94) ∨ (x + 255 ≤ k ∧ k ≤ x + 258) → τ k i = σ k i) : HX τ x (S, pd, G.2.2) := by
  refine ⟨h1, h2, fun i i1 i2 => ?_, by rw [hf _ _ (by omega)]; exact h.2.2.2.1, fun i i1 i2 => by rw [hf _ _ (by omega)]; exact h.2.2.2.2 i i1 i2⟩
  rw [hf _ _ (by omega)]
  rcases h.2.2.1 i i1 i2 with q | ⟨H, q1, q2, q3⟩
  · exact Or.inl q
  · exact Or.inr ⟨H, q1, q2, q3.kept (fun k j b1 b2 _ => hf k j (by omega))⟩
theorem HX.kept {σ τ : ab_S} {x : Int} {G : GS} (h : HX σ x G) (hf : ∀ k i : Int, (x ≤ k ∧ k ≤ x + 94 ∧ k ≠ x + 10) ∨ (x + 255 ≤ k ∧ k ≤ x + 258) → τ k i = σ k i) : HX τ x G :=
  HX.mk h (h.1.kept (fun k i b1 b2 b3 => hf k i (by omega))) (h.2.1.kept (fun k i b1 b2 => hf k i (by omega))) (fun k i b => hf k i (by omega))
theorem HX.now {σ τ : ab_S} {x : Int} {G : GS} {S : WH} (h : HX σ x G) (h1 : RW τ (x + 3) S) (hf : ∀ k i : Int, (x ≤ k ∧ k ≤ x + 2) ∨ (x + 33 ≤ k ∧ k ≤ x + 94) ∨ (x + 255 ≤ k ∧ k ≤ x + 258) → τ k i = σ k i) : HX τ x (S, G.2) :=
  HX.mk h h1 (h.2.1.kept (fun k i b1 b2 => hf k i (by omega))) (fun k i b => hf k i (by omega))
theorem HX.abb {σ τ : ab_S} {x : Int} {G : GS} {B : AB} (h : HX σ x G) (h1 : RA τ (x + 3 + 1) B) (hf : ∀ k i : Int, (x ≤ k ∧ k ≤ x + 3) ∨ (x + 27 ≤ k ∧ k ≤ x + 94) ∨ (x + 255 ≤ k ∧ k ≤ x + 258) → τ k i = σ k i) : HX τ x (setA G B) :=
  HX.now h ⟨h1, h.1.2.1.kept (fun k i b1 b2 => hf k i (by omega)), h.1.2.2.kept (fun k i b1 b2 => hf k i (by omega))⟩ (fun k i b => hf k i (by omega))
theorem HX.padd {σ τ : ab_S} {x : Int} {G : GS} {pd : List Int} (h : HX σ x G) (h1 : RD τ (x + 1) pd) (hf : ∀ k i : Int, k < x + 1 ∨ x + 1 + 1 < k → τ k i = σ k i) : HX τ x (G.1, pd, G.2.2) :=
  HX.mk h (h.1.kept (fun k i b1 b2 b3 => hf k i (by omega))) h1 (fun k i b => hf k i (by omega))
theorem HX.lo {σ τ : ab_S} {x : Int} {G : GS} {xs : List (Int × Int)} (h : HX σ x G) (h1 : RP τ (x + 3 + 24) xs) (hf : ∀ k i : Int, k < x + 3 + 24 ∨ x + 3 + 24 + 2 < k → τ k i = σ k i) : HX τ x ((G.1.1, xs, G.1.2.2), G.2) :=
  HX.now h ⟨h.1.1.kept (fun k i b1 b2 _ => hf k i (by omega)), h1, h.1.2.2.kept (fun k i b1 b2 => hf k i (by omega))⟩ (fun k i b => hf k i (by omega))
theorem HX.we {σ τ : ab_S} {x : Int} {G : GS} {xs : List (Int × Int)} (h : HX σ x G) (h1 : RP τ (x + 3 + 27) xs) (hf : ∀ k i : Int, k < x + 3 + 27 ∨ x + 3 + 27 + 2 < k → τ k i = σ k i) : HX τ x ((G.1.1, G.1.2.1, xs), G.2) :=
  HX.now h ⟨h.1.1.kept (fun k i b1 b2 _ => hf k i (by omega)), h.1.2.1.kept (fun k i b1 b2 => hf k i (by omega)), h1⟩ (fun k i b => hf k i (by omega))
/-! the calls, as functions -/
def monkF (G : GS) (m w v : Int) : Int × GS := if ¬ (0 ≤ m ∧ m ≤ 5) then (-1, G) else if ¬ (0 ≤ w ∧ w ≤ 1) then (-2, G) else if w = 0 then (if ¬ (0 ≤ v ∧ v ≤ 40) then (-2, G) else (aH G.1.1 m, setA G (setH G.1.1 m v))) else if ¬ (0 ≤ v ∧ v ≤ 9) then (-2, G) else (aS G.1.1 m, setA G (setS G.1.1 m v))
def wearF (G : GS) (v : Int) : Int × GS := if ¬ (0 ≤ v ∧ v ≤ 9) then (-2, G) else (aWr G.1.1, setA G (setWr G.1.1 v))
def sayF (G : GS) (s : Int) : Int × GS := if ¬ (33 ≤ s ∧ s ≤ 126) then (-2, G) else if G.2.1.length = 60 then (-4, G) else ((G.2.1.length : Int) + 1, (G.1, G.2.1 ++ [s], G.2.2))
def wipeF (G : GS) : Int × GS := (G.2.1.length, (G.1, [], G.2.2))
def judgeF (G : GS) (w : Int) : Int × GS := if ¬ (0 ≤ w ∧ w ≤ 1) then (-2, G) else if ¬ fault G.2.1 = -6 then (-5, G) else if (follow G.2.1 G.1.1).2.1 = 0 then (-6, G) else if w = 0 then ((follow G.2.1 G.1.1).1, G) else ((follow G.2.1 G.1.1).2.1, G)
def doneF (G : GS) : Int × GS := if ¬ fault G.2.1 = -6 then (-5, G) else if ¬ (follow G.2.1 G.1.1).2.1 = 0 then (-5, G) else ((follow G.2.1 G.1.1).1, (((follow G.2.1 G.1.1).2.2, G.1.2), [], G.2.2))
def lkG (L : List Lk) (i : Int) : Lk := L.getD i.toNat (0, 0, 0)
def lockF (G : GS) (r l w : Int) : Int × GS := if ¬ (0 ≤ r ∧ r ≤ 3) then (-1, G) else if ¬ (0 ≤ l ∧ l ≤ (aR G.1.1 r).length - 1) then (-1, G) else if w = 0 then ((lkG (aR G.1.1 r) l).1, G) else if w = 1 then ((lkG (aR G.1.1 r) l).2.1, G) else if w = 2 then (aWk G.1.1 - (lkG (aR G.1.1 r) l).2.2, G) else (-2, G)
def powerF (G : GS) (r : Int) : Int × GS := if ¬ (0 ≤ r ∧ r ≤ 3) then (-1, G) else (powL (aS G.1.1) (aR G.1.1 r), G)
def brokenF (G : GS) (l : Int) : Int × GS := if ¬ (0 ≤ l ∧ l ≤ 99999) then (-2, G) else (brkA G.1.1 l, G)
def ledF (G : GS) (m w : Int) : Int × GS := if ¬ (0 ≤ m ∧ m ≤ 5) then (-1, G) else if ¬ (0 ≤ w ∧ w ≤ 1) then (-2, G) else if w = 0 then (inA G.1.1 m, G) else (aW G.1.1 m, G)
def loadF (G : GS) (u v : Int) : Int × GS := if ¬ (0 ≤ u ∧ u ≤ 9999) then (-2, G) else if ¬ (0 ≤ v ∧ v ≤ 99) then (-2, G) else if G.1.2.1.length = 6 then (-4, G) else ((G.1.2.1.length : Int) + 1, ((G.1.1, G.1.2.1 ++ [(u, v)], G.1.2.2), G.2))
def dropF (G : GS) : Int × GS := (G.1.2.1.length, ((G.1.1, [], G.1.2.2), G.2))
def weighF (G : GS) (u v : Int) : Int × GS := if ¬ (1 ≤ u ∧ u ≤ 63) then (-2, G) else if ¬ (0 ≤ v ∧ v ≤ 240) then (-2, G) else if G.1.2.2.length = 6 then (-4, G) else ((G.1.2.2.length : Int) + 1, ((G.1.1, G.1.2.1, G.1.2.2 ++ [(u, v)]), G.2))
def forgetF (G : GS) : Int × GS := (G.1.2.2.length, ((G.1.1, G.1.2.1, []), G.2))
def imageF (G : GS) (n : Int) : Int × GS := if ¬ (0 ≤ n ∧ n ≤ 1) then (-2, G) else (1, (G.1, G.2.1, fu G.2.2 n (some G.1)))
def restoreF (G : GS) (n : Int) : Int × GS := if ¬ (0 ≤ n ∧ n ≤ 1) then (-2, G) else match G.2.2 n with
  | none => (-3, G)
  | some H => (1, (H, G.2))
def toldF (G : GS) (w : Int) : Int × GS := if w = 0 then ((G.2.1.length : Int), G) else if w = 1 then (aWr G.1.1, G) else if w = 2 then (aWk G.1.1, G) else if w = 3 then ((G.1.2.1.length : Int), G) else if w = 4 then ((G.1.2.2.length : Int), G) else if 10 ≤ w ∧ w ≤ 15 then (aH G.1.1 (w - 10), G) else if 20 ≤ w ∧ w ≤ 25 then (aS G.1.1 (w - 20), G) else if 30 ≤ w ∧ w ≤ 35 then (aB G.1.1 (w - 30), G) else if 40 ≤ w ∧ w ≤ 43 then (((aR G.1.1 (w - 40)).length : Int), G) else (-2, G)
set_option maxRecDepth 20000 in
theorem c_X8_monk {σ : ab_S} {x : Int} {G : GS} (hx : kd_ x 8 8) (hX : HX σ x G) (hG : OKG G) {m : Int} (hm1 : -2147483648 ≤ m) (hm2 : m ≤ 2147483647) {w : Int} (hw1 : -2147483648 ≤ w) (hw2 : w ≤ 2147483647) {v : Int} (hv1 : -2147483648 ≤ v) (hv2 : v ≤ 2147483647) : C2 YX8_monk 1 σ [rf x, iv m, iv w, iv v] (PI fun σ' z => z = (monkF G m w v).1 ∧ HX σ' x (monkF G m w v).2 ∧ FX σ σ' x) := by
  obtain ⟨k1, k2, k3, k4, k5, k6, k7, k8⟩ := kd_hb hx
  obtain ⟨w1, w2, w3⟩ := kd_whole k2
  obtain ⟨a1, a2, a3, a4, a5, a6⟩ := kd_abbey w1
  have hA := hX.1.1
  have hW := hG.1.1.1
  have hWL := hG.1.1.2
  refine C2.of (by decide +kernel) (Nat.le_of_ble_eq_true rfl) ?_
  refine r_iload_n (Y := YX8_monk) dX8_monk_0 rfl ?_
  refine r_iconst (Y := YX8_monk) dX8_monk_1 ?_
  refine r_iconst (Y := YX8_monk) dX8_monk_2 ?_
  refine r_iS3I (Y := YX8_monk) ms_X8_59 dX8_monk_3 (c_isIn (by omega) (by omega) (by omega) (by omega) (by omega) (by omega)) (fun σ3 z3 h3 => ?_)
  obtain ⟨rfl, h3⟩ := h3
  refine r_if_ne (Y := YX8_monk) (tgt := 11) dX8_monk_6 (by decide) (fun c6 => ?_) (fun c6 => ?_) 
  · refine r_iload_n (Y := YX8_monk) dX8_monk_11 rfl ?_
    refine r_iconst (Y := YX8_monk) dX8_monk_12 ?_
    refine r_iconst (Y := YX8_monk) dX8_monk_13 ?_
    refine r_iS3I (Y := YX8_monk) ms_X8_59 dX8_monk_14 (c_isIn (by omega) (by omega) (by omega) (by omega) (by omega) (by omega)) (fun σ14 z14 h14 => ?_)
    obtain ⟨rfl, h14⟩ := h14
    refine r_if_eq (Y := YX8_monk) (tgt := 39) dX8_monk_17 (by decide) (fun c17 => ?_) (fun c17 => ?_) 
    · refine r_bipush (Y := YX8_monk) dX8_monk_39 ?_
      refine r_ireturn (Y := YX8_monk) dX8_monk_41 ?_
      unfold monkF
      (repeat (first | rw [if_pos (by omega)] | rw [if_neg (by omega)]))
      exact ⟨rfl, hX, fun _ _ _ => rfl⟩
    · refine r_iload_n (Y := YX8_monk) dX8_monk_20 rfl ?_
      refine r_iconst (Y := YX8_monk) dX8_monk_21 ?_
      refine r_iload_n (Y := YX8_monk) dX8_monk_22 rfl ?_
      refine r_if_ne (Y := YX8_monk) (tgt := 31) dX8_monk_23 (by decide) (fun c23 => ?_) (fun c23 => ?_) 
      · refine r_bipush (Y := YX8_monk) dX8_monk_31 ?_
        refine r_iS3I (Y := YX8_monk) ms_X8_59 dX8_monk_33 (c_isIn (by omega) (by omega) (by omega) (by omega) (by omega) (by omega)) (fun σ33 z33 h33 => ?_)
        obtain ⟨rfl, h33⟩ := h33
        refine r_if_ne (Y := YX8_monk) (tgt := 42) dX8_monk_36 (by decide) (fun c36 => ?_) (fun c36 => ?_) 
        · refine r_iload_n (Y := YX8_monk) dX8_monk_42 rfl ?_
          refine r_if_ne (Y := YX8_monk) (tgt := 59) dX8_monk_43 (by decide) (fun c43 => ?_) (fun c43 => ?_) 
          · refine r_aload_n (Y := YX8_monk) dX8_monk_59 rfl ?_
            refine r_getR (Y := YX8_monk) (δz := 3) fl_X8_19 dX8_monk_60 rfl rfl ?_
            refine r_getR (Y := YX8_monk) (δz := 1) fl_X8_63 dX8_monk_63 rfl rfl ?_
            refine r_getR (Y := YX8_monk) (δz := 2) fl_X8_70 dX8_monk_66 rfl rfl ?_
            refine r_astore (Y := YX8_monk) dX8_monk_69 ?_
            refine r_aload (Y := YX8_monk) dX8_monk_71 rfl ?_
            refine r_iload_n (Y := YX8_monk) dX8_monk_73 rfl ?_
            refine r_iaload (Y := YX8_monk) dX8_monk_74 ?_
            refine r_istore (Y := YX8_monk) dX8_monk_75 ?_
            refine r_aload (Y := YX8_monk) dX8_monk_77 rfl ?_
            refine r_iload_n (Y := YX8_monk) dX8_monk_79 rfl ?_
            refine r_iload_n (Y := YX8_monk) dX8_monk_80 rfl ?_
            refine r_iastore (Y := YX8_monk) dX8_monk_81 ?_
            refine r_iload (Y := YX8_monk) dX8_monk_82 rfl ?_
            refine r_ireturn (Y := YX8_monk) dX8_monk_84 ?_
            first
              | (exfalso; omega)
              | skip
            all_goals (unfold monkF)
            all_goals ((repeat (first | rw [if_pos (by omega)] | rw [if_neg (by omega)])))
            all_goals first
              | exact ⟨hA.1 m (by omega) (by omega), hX.abb (RA_setH hA (up_same _ _ _ _) (fun q i b1 b2 b3 => by (try delta up); (try delta cpy); (try dsimp only); repeat (first | rw [if_pos (by omega)] | rw [if_neg (by omega)]); try (first | rfl | assumption | omega))) (fun q i b => by (try delta up); (try delta cpy); (try dsimp only); repeat (first | rw [if_pos (by omega)] | rw [if_neg (by omega)]); try (first | rfl | assumption | omega)), fun q i b => by (try delta up); (try delta cpy); (try dsimp only); repeat (first | rw [if_pos (by omega)] | rw [if_neg (by omega)]); try (first | rfl | assumption | omega)⟩
              | exact ⟨hA.2.1 m (by omega) (by omega), hX.abb (RA_setS hA (up_same _ _ _ _) (fun q i b1 b2 b3 => by (try delta up); (try delta cpy); (try dsimp only); repeat (first | rw [if_pos (by omega)] | rw [if_neg (by omega)]); try (first | rfl | assumption | omega))) (fun q i b => by (try delta up); (try delta cpy); (try dsimp only); repeat (first | rw [if_pos (by omega)] | rw [if_neg (by omega)]); try (first | rfl | assumption | omega)), fun q i b => by (try delta up); (try delta cpy); (try dsimp only); repeat (first | rw [if_pos (by omega)] | rw [if_neg (by omega)]); try (first | rfl | assumption | omega)⟩
          · refine r_aload_n (Y := YX8_monk) dX8_monk_46 rfl ?_
            refine r_getR (Y := YX8_monk) (δz := 3) fl_X8_19 dX8_monk_47 rfl rfl ?_
            refine r_getR (Y := YX8_monk) (δz := 1) fl_X8_63 dX8_monk_50 rfl rfl ?_
            refine r_getR (Y := YX8_monk) (δz := 1) fl_X8_66 dX8_monk_53 rfl rfl ?_
            refine r_goto (Y := YX8_monk) (tgt := 69) dX8_monk_56 (by decide) ?_
            refine r_astore (Y := YX8_monk) dX8_monk_69 ?_
            refine r_aload (Y := YX8_monk) dX8_monk_71 rfl ?_
            refine r_iload_n (Y := YX8_monk) dX8_monk_73 rfl ?_
            refine r_iaload (Y := YX8_monk) dX8_monk_74 ?_
            refine r_istore (Y := YX8_monk) dX8_monk_75 ?_
            refine r_aload (Y := YX8_monk) dX8_monk_77 rfl ?_
            refine r_iload_n (Y := YX8_monk) dX8_monk_79 rfl ?_
            refine r_iload_n (Y := YX8_monk) dX8_monk_80 rfl ?_
            refine r_iastore (Y := YX8_monk) dX8_monk_81 ?_
            refine r_iload (Y := YX8_monk) dX8_monk_82 rfl ?_
            refine r_ireturn (Y := YX8_monk) dX8_monk_84 ?_
            first
              | (exfalso; omega)
              | skip
            all_goals (unfold monkF)
            all_goals ((repeat (first | rw [if_pos (by omega)] | rw [if_neg (by omega)])))
            all_goals first
              | exact ⟨hA.1 m (by omega) (by omega), hX.abb (RA_setH hA (up_same _ _ _ _) (fun q i b1 b2 b3 => by (try delta up); (try delta cpy); (try dsimp only); repeat (first | rw [if_pos (by omega)] | rw [if_neg (by omega)]); try (first | rfl | assumption | omega))) (fun q i b => by (try delta up); (try delta cpy); (try dsimp only); repeat (first | rw [if_pos (by omega)] | rw [if_neg (by omega)]); try (first | rfl | assumption | omega)), fun q i b => by (try delta up); (try delta cpy); (try dsimp only); repeat (first | rw [if_pos (by omega)] | rw [if_neg (by omega)]); try (first | rfl | assumption | omega)⟩
              | exact ⟨hA.2.1 m (by omega) (by omega), hX.abb (RA_setS hA (up_same _ _ _ _) (fun q i b1 b2 b3 => by (try delta up); (try delta cpy); (try dsimp only); repeat (first | rw [if_pos (by omega)] | rw [if_neg (by omega)]); try (first | rfl | assumption | omega))) (fun q i b => by (try delta up); (try delta cpy); (try dsimp only); repeat (first | rw [if_pos (by omega)] | rw [if_neg (by omega)]); try (first | rfl | assumption | omega)), fun q i b => by (try delta up); (try delta cpy); (try dsimp only); repeat (first | rw [if_pos (by omega)] | rw [if_neg (by omega)]); try (first | rfl | assumption | omega)⟩
        · refine r_bipush (Y := YX8_monk) dX8_monk_39 ?_
          refine r_ireturn (Y := YX8_monk) dX8_monk_41 ?_
          unfold monkF
          (repeat (first | rw [if_pos (by omega)] | rw [if_neg (by omega)]))
          exact ⟨rfl, hX, fun _ _ _ => rfl⟩
      · refine r_bipush (Y := YX8_monk) dX8_monk_26 ?_
        refine r_goto (Y := YX8_monk) (tgt := 33) dX8_monk_28 (by decide) ?_
        refine r_iS3I (Y := YX8_monk) ms_X8_59 dX8_monk_33 (c_isIn (by omega) (by omega) (by omega) (by omega) (by omega) (by omega)) (fun σ33 z33 h33 => ?_)
        obtain ⟨rfl, h33⟩ := h33
        refine r_if_ne (Y := YX8_monk) (tgt := 42) dX8_monk_36 (by decide) (fun c36 => ?_) (fun c36 => ?_) 
        · refine r_iload_n (Y := YX8_monk) dX8_monk_42 rfl ?_
          refine r_if_ne (Y := YX8_monk) (tgt := 59) dX8_monk_43 (by decide) (fun c43 => ?_) (fun c43 => ?_) 
          · refine r_aload_n (Y := YX8_monk) dX8_monk_59 rfl ?_
            refine r_getR (Y := YX8_monk) (δz := 3) fl_X8_19 dX8_monk_60 rfl rfl ?_
            refine r_getR (Y := YX8_monk) (δz := 1) fl_X8_63 dX8_monk_63 rfl rfl ?_
            refine r_getR (Y := YX8_monk) (δz := 2) fl_X8_70 dX8_monk_66 rfl rfl ?_
            refine r_astore (Y := YX8_monk) dX8_monk_69 ?_
            refine r_aload (Y := YX8_monk) dX8_monk_71 rfl ?_
            refine r_iload_n (Y := YX8_monk) dX8_monk_73 rfl ?_
            refine r_iaload (Y := YX8_monk) dX8_monk_74 ?_
            refine r_istore (Y := YX8_monk) dX8_monk_75 ?_
            refine r_aload (Y := YX8_monk) dX8_monk_77 rfl ?_
            refine r_iload_n (Y := YX8_monk) dX8_monk_79 rfl ?_
            refine r_iload_n (Y := YX8_monk) dX8_monk_80 rfl ?_
            refine r_iastore (Y := YX8_monk) dX8_monk_81 ?_
            refine r_iload (Y := YX8_monk) dX8_monk_82 rfl ?_
            refine r_ireturn (Y := YX8_monk) dX8_monk_84 ?_
            first
              | (exfalso; omega)
              | skip
            all_goals (unfold monkF)
            all_goals ((repeat (first | rw [if_pos (by omega)] | rw [if_neg (by omega)])))
            all_goals first
              | exact ⟨hA.1 m (by omega) (by omega), hX.abb (RA_setH hA (up_same _ _ _ _) (fun q i b1 b2 b3 => by (try delta up); (try delta cpy); (try dsimp only); repeat (first | rw [if_pos (by omega)] | rw [if_neg (by omega)]); try (first | rfl | assumption | omega))) (fun q i b => by (try delta up); (try delta cpy); (try dsimp only); repeat (first | rw [if_pos (by omega)] | rw [if_neg (by omega)]); try (first | rfl | assumption | omega)), fun q i b => by (try delta up); (try delta cpy); (try dsimp only); repeat (first | rw [if_pos (by omega)] | rw [if_neg (by omega)]); try (first | rfl | assumption | omega)⟩
              | exact ⟨hA.2.1 m (by omega) (by omega), hX.abb (RA_setS hA (up_same _ _ _ _) (fun q i b1 b2 b3 => by (try delta up); (try delta cpy); (try dsimp only); repeat (first | rw [if_pos (by omega)] | rw [if_neg (by omega)]); try (first | rfl | assumption | omega))) (fun q i b => by (try delta up); (try delta cpy); (try dsimp only); repeat (first | rw [if_pos (by omega)] | rw [if_neg (by omega)]); try (first | rfl | assumption | omega)), fun q i b => by (try delta up); (try delta cpy); (try dsimp only); repeat (first | rw [if_pos (by omega)] | rw [if_neg (by omega)]); try (first | rfl | assumption | omega)⟩
          · refine r_aload_n (Y := YX8_monk) dX8_monk_46 rfl ?_
            refine r_getR (Y := YX8_monk) (δz := 3) fl_X8_19 dX8_monk_47 rfl rfl ?_
            refine r_getR (Y := YX8_monk) (δz := 1) fl_X8_63 dX8_monk_50 rfl rfl ?_
            refine r_getR (Y := YX8_monk) (δz := 1) fl_X8_66 dX8_monk_53 rfl rfl ?_
            refine r_goto (Y := YX8_monk) (tgt := 69) dX8_monk_56 (by decide) ?_
            refine r_astore (Y := YX8_monk) dX8_monk_69 ?_
            refine r_aload (Y := YX8_monk) dX8_monk_71 rfl ?_
            refine r_iload_n (Y := YX8_monk) dX8_monk_73 rfl ?_
            refine r_iaload (Y := YX8_monk) dX8_monk_74 ?_
            refine r_istore (Y := YX8_monk) dX8_monk_75 ?_
            refine r_aload (Y := YX8_monk) dX8_monk_77 rfl ?_
            refine r_iload_n (Y := YX8_monk) dX8_monk_79 rfl ?_
            refine r_iload_n (Y := YX8_monk) dX8_monk_80 rfl ?_
            refine r_iastore (Y := YX8_monk) dX8_monk_81 ?_
            refine r_iload (Y := YX8_monk) dX8_monk_82 rfl ?_
            refine r_ireturn (Y := YX8_monk) dX8_monk_84 ?_
            first
              | (exfalso; omega)
              | skip
            all_goals (unfold monkF)
            all_goals ((repeat (first | rw [if_pos (by omega)] | rw [if_neg (by omega)])))
            all_goals first
              | exact ⟨hA.1 m (by omega) (by omega), hX.abb (RA_setH hA (up_same _ _ _ _) (fun q i b1 b2 b3 => by (try delta up); (try delta cpy); (try dsimp only); repeat (first | rw [if_pos (by omega)] | rw [if_neg (by omega)]); try (first | rfl | assumption | omega))) (fun q i b => by (try delta up); (try delta cpy); (try dsimp only); repeat (first | rw [if_pos (by omega)] | rw [if_neg (by omega)]); try (first | rfl | assumption | omega)), fun q i b => by (try delta up); (try delta cpy); (try dsimp only); repeat (first | rw [if_pos (by omega)] | rw [if_neg (by omega)]); try (first | rfl | assumption | omega)⟩
              | exact ⟨hA.2.1 m (by omega) (by omega), hX.abb (RA_setS hA (up_same _ _ _ _) (fun q i b1 b2 b3 => by (try delta up); (try delta cpy); (try dsimp only); repeat (first | rw [if_pos (by omega)] | rw [if_neg (by omega)]); try (first | rfl | assumption | omega))) (fun q i b => by (try delta up); (try delta cpy); (try dsimp only); repeat (first | rw [if_pos (by omega)] | rw [if_neg (by omega)]); try (first | rfl | assumption | omega)), fun q i b => by (try delta up); (try delta cpy); (try dsimp only); repeat (first | rw [if_pos (by omega)] | rw [if_neg (by omega)]); try (first | rfl | assumption | omega)⟩
        · refine r_bipush (Y := YX8_monk) dX8_monk_39 ?_
          refine r_ireturn (Y := YX8_monk) dX8_monk_41 ?_
          unfold monkF
          (repeat (first | rw [if_pos (by omega)] | rw [if_neg (by omega)]))
          exact ⟨rfl, hX, fun _ _ _ => rfl⟩
  · refine r_iconst (Y := YX8_monk) dX8_monk_9 ?_
    refine r_ireturn (Y := YX8_monk) dX8_monk_10 ?_
    unfold monkF
    (repeat (first | rw [if_pos (by omega)] | rw [if_neg (by omega)]))
    exact ⟨rfl, hX, fun _ _ _ => rfl⟩
set_option maxRecDepth 20000 in
theorem c_X8_wear {σ : ab_S} {x : Int} {G : GS} (hx : kd_ x 8 8) (hX : HX σ x G) (hG : OKG G) {v : Int} (hv1 : -2147483648 ≤ v) (hv2 : v ≤ 2147483647) : C2 YX8_wear 1 σ [rf x, iv v] (PI fun σ' z => z = (wearF G v).1 ∧ HX σ' x (wearF G v).2 ∧ FX σ σ' x) := by
  obtain ⟨k1, k2, k3, k4, k5, k6, k7, k8⟩ := kd_hb hx
  obtain ⟨w1, w2, w3⟩ := kd_whole k2
  obtain ⟨a1, a2, a3, a4, a5, a6⟩ := kd_abbey w1
  have hA := hX.1.1
  have hW := hG.1.1.1
  have hWL := hG.1.1.2
  refine C2.of (by decide +kernel) (Nat.le_of_ble_eq_true rfl) ?_
  refine r_iload_n (Y := YX8_wear) dX8_wear_0 rfl ?_
  refine r_iconst (Y := YX8_wear) dX8_wear_1 ?_
  refine r_bipush (Y := YX8_wear) dX8_wear_2 ?_
  refine r_iS3I (Y := YX8_wear) ms_X8_59 dX8_wear_4 (c_isIn (by omega) (by omega) (by omega) (by omega) (by omega) (by omega)) (fun σ4 z4 h4 => ?_)
  obtain ⟨rfl, h4⟩ := h4
  refine r_if_ne (Y := YX8_wear) (tgt := 13) dX8_wear_7 (by decide) (fun c7 => ?_) (fun c7 => ?_) 
  · refine r_aload_n (Y := YX8_wear) dX8_wear_13 rfl ?_
    refine r_getR (Y := YX8_wear) (δz := 3) fl_X8_19 dX8_wear_14 rfl rfl ?_
    refine r_getR (Y := YX8_wear) (δz := 1) fl_X8_63 dX8_wear_17 rfl rfl ?_
    refine r_getV (Y := YX8_wear) (v := aWr G.1.1) (jz := 6) fl_X8_73 dX8_wear_20 (hA.2.2.2.2.2.1) ?_
    refine r_istore_n (Y := YX8_wear) dX8_wear_23 ?_
    refine r_aload_n (Y := YX8_wear) dX8_wear_24 rfl ?_
    refine r_getR (Y := YX8_wear) (δz := 3) fl_X8_19 dX8_wear_25 rfl rfl ?_
    refine r_getR (Y := YX8_wear) (δz := 1) fl_X8_63 dX8_wear_28 rfl rfl ?_
    refine r_iload_n (Y := YX8_wear) dX8_wear_31 rfl ?_
    refine r_putI (Y := YX8_wear) (jz := 6) fp_X8_73 dX8_wear_32 ?_
    refine r_iload_n (Y := YX8_wear) dX8_wear_35 rfl ?_
    refine r_ireturn (Y := YX8_wear) dX8_wear_36 ?_
    unfold wearF
    (repeat (first | rw [if_pos (by omega)] | rw [if_neg (by omega)]))
    exact ⟨rfl, hX.abb (RA_setWr hA (up_same _ _ _ _) (fun q i b1 b2 b3 => by (try delta up); (try delta cpy); (try dsimp only); repeat (first | rw [if_pos (by omega)] | rw [if_neg (by omega)]); try (first | rfl | assumption | omega))) (fun q i b => by (try delta up); (try delta cpy); (try dsimp only); repeat (first | rw [if_pos (by omega)] | rw [if_neg (by omega)]); try (first | rfl | assumption | omega)), fun q i b => by (try delta up); (try delta cpy); (try dsimp only); repeat (first | rw [if_pos (by omega)] | rw [if_neg (by omega)]); try (first | rfl | assumption | omega)⟩
  · refine r_bipush (Y := YX8_wear) dX8_wear_10 ?_
    refine r_ireturn (Y := YX8_wear) dX8_wear_12 ?_
    unfold wearF
    (repeat (first | rw [if_pos (by omega)] | rw [if_neg (by omega)]))
    exact ⟨rfl, hX, fun _ _ _ => rfl⟩
set_option maxRecDepth 20000 in
theorem c_X8_say {σ : ab_S} {x : Int} {G : GS} (hx : kd_ x 8 8) (hX : HX σ x G) (hG : OKG G) {s : Int} (hs1 : -2147483648 ≤ s) (hs2 : s ≤ 2147483647) : C2 YX8_say 1 σ [rf x, iv s] (PI fun σ' z => z = (sayF G s).1 ∧ HX σ' x (sayF G s).2 ∧ FX σ σ' x) := by
  obtain ⟨k1, k2, k3, k4, k5, k6, k7, k8⟩ := kd_hb hx
  obtain ⟨w1, w2, w3⟩ := kd_whole k2
  obtain ⟨a1, a2, a3, a4, a5, a6⟩ := kd_abbey w1
  have hA := hX.1.1
  have hW := hG.1.1.1
  have hWL := hG.1.1.2
  have hL := hG.2.1.1
  refine C2.of (by decide +kernel) (Nat.le_of_ble_eq_true rfl) ?_
  refine r_iload_n (Y := YX8_say) dX8_say_0 rfl ?_
  refine r_bipush (Y := YX8_say) dX8_say_1 ?_
  refine r_bipush (Y := YX8_say) dX8_say_3 ?_
  refine r_iS3I (Y := YX8_say) ms_X8_59 dX8_say_5 (c_isIn (by omega) (by omega) (by omega) (by omega) (by omega) (by omega)) (fun σ5 z5 h5 => ?_)
  obtain ⟨rfl, h5⟩ := h5
  refine r_if_ne (Y := YX8_say) (tgt := 14) dX8_say_8 (by decide) (fun c8 => ?_) (fun c8 => ?_) 
  · refine r_aload_n (Y := YX8_say) dX8_say_14 rfl ?_
    refine r_getR (Y := YX8_say) (δz := 1) fl_X8_10 dX8_say_15 rfl rfl ?_
    refine r_iload_n (Y := YX8_say) dX8_say_18 rfl ?_
    refine r_iV1I (Y := YX8_say) mv_X8_77 dX8_say_19 (c_X2_put k1 hX.2.1 hG.2.1) (by assumption) (fun σ19 z19 h19 => ?_)
    obtain ⟨h19, f19⟩ := h19
    have hz19 : (z19 = 1 ∧ G.2.1.length < 60) ∨ (z19 = 0 ∧ G.2.1.length = 60) := by rcases h19 with q | q; exact Or.inl ⟨q.1, q.2.1⟩; exact Or.inr ⟨q.1, q.2.1⟩
    refine r_if_eq (Y := YX8_say) (tgt := 35) dX8_say_22 (by decide) (fun c22 => ?_) (fun c22 => ?_) 
    · refine r_bipush (Y := YX8_say) dX8_say_35 ?_
      refine r_ireturn (Y := YX8_say) dX8_say_37 ?_
      unfold sayF
      (repeat (first | rw [if_pos (by omega)] | rw [if_neg (by omega)]))
      rcases h19 with q | q
      · first | omega | exact ⟨rfl, hX.padd q.2.2 f19, fun k i b => f19 k i (by omega)⟩
      · first | omega | exact ⟨rfl, hX.padd q.2.2 f19, fun k i b => f19 k i (by omega)⟩
    · refine r_aload_n (Y := YX8_say) dX8_say_25 rfl ?_
      refine r_getR (Y := YX8_say) (δz := 1) fl_X8_10 dX8_say_26 rfl rfl ?_
      refine r_getV (Y := YX8_say) (v := (G.2.1.length : Int) + 1) (jz := 1) fl_X8_81 dX8_say_29 ((by rcases h19 with q | q; (have := q.2.2.1; rw [List.length_append] at this; exact this); omega)) ?_
      refine r_goto (Y := YX8_say) (tgt := 37) dX8_say_32 (by decide) ?_
      refine r_ireturn (Y := YX8_say) dX8_say_37 ?_
      unfold sayF
      (repeat (first | rw [if_pos (by omega)] | rw [if_neg (by omega)]))
      rcases h19 with q | q
      · first | omega | exact ⟨rfl, hX.padd q.2.2 f19, fun k i b => f19 k i (by omega)⟩
      · first | omega | exact ⟨rfl, hX.padd q.2.2 f19, fun k i b => f19 k i (by omega)⟩
  · refine r_bipush (Y := YX8_say) dX8_say_11 ?_
    refine r_ireturn (Y := YX8_say) dX8_say_13 ?_
    unfold sayF
    (repeat (first | rw [if_pos (by omega)] | rw [if_neg (by omega)]))
    exact ⟨rfl, hX, fun _ _ _ => rfl⟩
set_option maxRecDepth 20000 in
theorem c_X8_wipe {σ : ab_S} {x : Int} {G : GS} (hx : kd_ x 8 8) (hX : HX σ x G) (hG : OKG G)  : C2 YX8_wipe 1 σ [rf x] (PI fun σ' z => z = (wipeF G).1 ∧ HX σ' x (wipeF G).2 ∧ FX σ σ' x) := by
  obtain ⟨k1, k2, k3, k4, k5, k6, k7, k8⟩ := kd_hb hx
  obtain ⟨w1, w2, w3⟩ := kd_whole k2
  obtain ⟨a1, a2, a3, a4, a5, a6⟩ := kd_abbey w1
  have hA := hX.1.1
  have hW := hG.1.1.1
  have hWL := hG.1.1.2
  refine C2.of (by decide +kernel) (Nat.le_of_ble_eq_true rfl) ?_
  refine r_aload_n (Y := YX8_wipe) dX8_wipe_0 rfl ?_
  refine r_getR (Y := YX8_wipe) (δz := 1) fl_X8_10 dX8_wipe_1 rfl rfl ?_
  refine r_iV0I (Y := YX8_wipe) mv_X8_84 dX8_wipe_4 (c_X2_clear k1 hX.2.1 hG.2.1) (by assumption) (fun σ4 z4 h4 => ?_)
  obtain ⟨rfl, q1, q2⟩ := h4
  refine r_ireturn (Y := YX8_wipe) dX8_wipe_7 ?_
  exact ⟨rfl, hX.padd q1 q2, fun k i b => q2 k i (by omega)⟩
def faultF (G : GS) : Int × GS := (fault G.2.1, G)
set_option maxRecDepth 20000 in
theorem c_X8_fault {σ : ab_S} {x : Int} {G : GS} (hx : kd_ x 8 8) (hX : HX σ x G) (hG : OKG G)  : C2 YX8_fault 3 σ [rf x] (PI fun σ' z => z = (faultF G).1 ∧ HX σ' x (faultF G).2 ∧ FX σ σ' x) := by
  obtain ⟨k1, k2, k3, k4, k5, k6, k7, k8⟩ := kd_hb hx
  obtain ⟨w1, w2, w3⟩ := kd_whole k2
  obtain ⟨a1, a2, a3, a4, a5, a6⟩ := kd_abbey w1
  have hA := hX.1.1
  have hW := hG.1.1.1
  have hWL := hG.1.1.2
  refine C2.of (by decide +kernel) (Nat.le_of_ble_eq_true rfl) ?_
  refine r_aload_n (Y := YX8_fault) dX8_fault_0 rfl ?_
  refine r_getR (Y := YX8_fault) (δz := 1) fl_X8_10 dX8_fault_1 rfl rfl ?_
  refine r_iV0I (Y := YX8_fault) mv_X8_88 dX8_fault_4 (c_X2_firstFault k1 hX.2.1 hG.2.1) (by assumption) (fun σ4 z4 h4 => ?_)
  obtain ⟨rfl, rfl⟩ := h4
  refine r_ireturn (Y := YX8_fault) dX8_fault_7 ?_
  exact ⟨rfl, hX, fun _ _ _ => rfl⟩
