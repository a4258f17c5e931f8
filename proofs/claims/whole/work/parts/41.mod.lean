/-! the model: what it holds -/
def RQ (σ : ab_S) (b c e q r : Int) (L : List Lk) : Prop := σ q r = L.length ∧ ∀ (i : Nat) (l : Lk), L[i]? = some l → σ b (8 * r + i) = l.1 ∧ σ c (8 * r + i) = l.2.1 ∧ σ e (8 * r + i) = l.2.2
def MM (σ : ab_S) (m : Int) (A : AB) : Prop := (∀ j : Int, 0 ≤ j → j < 6 → σ (m + 1) j = aH A j) ∧ (∀ j : Int, 0 ≤ j → j < 6 → σ (m + 2) j = aS A j) ∧ (∀ j : Int, 0 ≤ j → j < 6 → σ (m + 3) j = aB A j) ∧ (∀ j : Int, 0 ≤ j → j < 6 → σ (m + 4) j = aW A j) ∧ (∀ r : Int, 0 ≤ r → r < 4 → RQ σ (m + 5) (m + 6) (m + 7) (m + 8) r (aR A r)) ∧ σ m 8 = aWr A ∧ σ m 9 = aWk A
def MT (σ : ab_S) (m : Int) (A : AB) : Prop := (∀ j : Int, 0 ≤ j → j < 6 → σ (m + 13) j = aH A j) ∧ (∀ j : Int, 0 ≤ j → j < 6 → σ (m + 2) j = aS A j) ∧ (∀ j : Int, 0 ≤ j → j < 6 → σ (m + 14) j = aB A j) ∧ (∀ j : Int, 0 ≤ j → j < 6 → σ (m + 15) j = aW A j) ∧ (∀ r : Int, 0 ≤ r → r < 4 → RQ σ (m + 16) (m + 17) (m + 18) (m + 19) r (aR A r)) ∧ σ m 8 = aWr A ∧ σ m 23 = aWk A
/-- what the trial's methods leave as it is -/
def FM (σ τ : ab_S) (m : Int) : Prop := ∀ k i : Int, (k < m + 13 ∨ m + 19 < k) → ¬ (k = m ∧ i = 23) → τ k i = σ k i
theorem FM.rf {σ : ab_S} {m : Int} : FM σ σ m := fun _ _ _ _ => rfl
theorem FM.tr {σ τ υ : ab_S} {m : Int} (h1 : FM σ τ m) (h2 : FM τ υ m) : FM σ υ m := fun k i a b => (h2 k i a b).trans (h1 k i a b)
theorem RQ.kept {σ τ : ab_S} {b c e q r : Int} {L : List Lk} (h : RQ σ b c e q r L) (hf : ∀ k i : Int, (k = b ∨ k = c ∨ k = e ∨ k = q) → τ k i = σ k i) : RQ τ b c e q r L := ⟨by rw [hf _ _ (by omega)]; exact h.1, fun i l hl => by rw [hf _ _ (by omega), hf _ _ (by omega), hf _ _ (by omega)]; exact h.2 i l hl⟩
theorem MT.kept {σ τ : ab_S} {m : Int} {A : AB} (h : MT σ m A) (hf : ∀ k i : Int, (k = m + 2 ∨ (m + 13 ≤ k ∧ k ≤ m + 19) ∨ (k = m ∧ (i = 8 ∨ i = 23))) → τ k i = σ k i) : MT τ m A := by
  obtain ⟨h1, h2, h3, h4, h5, h6, h7⟩ := h
  refine ⟨fun j a b => ?_, fun j a b => ?_, fun j a b => ?_, fun j a b => ?_, fun r a b => ?_, ?_, ?_⟩
  · rw [hf _ _ (by omega)]; exact h1 j a b
  · rw [hf _ _ (by omega)]; exact h2 j a b
  · rw [hf _ _ (by omega)]; exact h3 j a b
  · rw [hf _ _ (by omega)]; exact h4 j a b
  · exact (h5 r a b).kept (fun k i c => hf k i (by omega))
  · rw [hf _ _ (by omega)]; exact h6
  · rw [hf _ _ (by omega)]; exact h7
theorem MM.kept {σ τ : ab_S} {m : Int} {A : AB} (h : MM σ m A) (hf : ∀ k i : Int, ((m + 1 ≤ k ∧ k ≤ m + 8) ∨ (k = m ∧ (i = 8 ∨ i = 9))) → τ k i = σ k i) : MM τ m A := by
  obtain ⟨h1, h2, h3, h4, h5, h6, h7⟩ := h
  refine ⟨fun j a b => ?_, fun j a b => ?_, fun j a b => ?_, fun j a b => ?_, fun r a b => ?_, ?_, ?_⟩
  · rw [hf _ _ (by omega)]; exact h1 j a b
  · rw [hf _ _ (by omega)]; exact h2 j a b
  · rw [hf _ _ (by omega)]; exact h3 j a b
  · rw [hf _ _ (by omega)]; exact h4 j a b
  · exact (h5 r a b).kept (fun k i c => hf k i (by omega))
  · rw [hf _ _ (by omega)]; exact h6
  · rw [hf _ _ (by omega)]; exact h7
theorem MM.fm {σ τ : ab_S} {m : Int} {A : AB} (h : MM σ m A) (hf : FM σ τ m) : MM τ m A := h.kept (fun k i b => hf k i (by omega) (by omega))
def CP (σ τ : ab_S) (d s : Int) (n : Int) : Prop := ∀ i : Int, 0 ≤ i → i < n → τ d i = σ s i
theorem RQ.cp {σ τ : ab_S} {b c e q b2 c2 e2 q2 r : Int} {L : List Lk} (h : RQ σ b c e q r L) (hr1 : 0 ≤ r) (hr2 : r < 4) (hL : L.length ≤ 8) (h1 : CP σ τ b2 b 32) (h2 : CP σ τ c2 c 32) (h3 : CP σ τ e2 e 32) (h4 : CP σ τ q2 q 4) : RQ τ b2 c2 e2 q2 r L := by
  refine ⟨by rw [h4 r hr1 hr2]; exact h.1, fun i l hl => ?_⟩
  have hi := (List.getElem?_eq_some_iff.mp hl).1
  rw [h1 _ (by omega) (by omega), h2 _ (by omega) (by omega), h3 _ (by omega) (by omega)]
  exact h.2 i l hl
set_option maxRecDepth 20000 in
theorem c_X9_layNow {σ : ab_S} {m : Int} (hm : kd_ m 9 37) : C2 YX9_layNow 0 σ [rf m] (PV fun σ' => CP σ σ' (m + 13) (m + 1) 6 ∧ CP σ σ' (m + 14) (m + 3) 6 ∧ CP σ σ' (m + 15) (m + 4) 6 ∧ CP σ σ' (m + 16) (m + 5) 32 ∧ CP σ σ' (m + 17) (m + 6) 32 ∧ CP σ σ' (m + 18) (m + 7) 32 ∧ CP σ σ' (m + 19) (m + 8) 4 ∧ σ' m 23 = σ m 9 ∧ ∀ k i : Int, k ≠ m + 13 → k ≠ m + 14 → k ≠ m + 15 → k ≠ m + 16 → k ≠ m + 17 → k ≠ m + 18 → k ≠ m + 19 → ¬ (k = m ∧ i = 23) → σ' k i = σ k i) := by
  obtain ⟨k1, k2, k3, k4, k5, k6, k7, k8, k9, k10, k11, k12, k13, k14, k15, k16, k17, k18, k19, k20, k21, k22, k23, k24, k25, k26⟩ := kd_model hm
  refine C2.of (by decide +kernel) (Nat.le_of_ble_eq_true rfl) ?_
  refine r_iconst (Y := YX9_layNow) dX9_layNow_0 ?_
  refine r_istore_n (Y := YX9_layNow) dX9_layNow_1 ?_
  suffices hl1 : ∀ (k n : Nat) (τ : ab_S), n + k = 6 → CP σ τ (m + 13) (m + 1) n → CP σ τ (m + 14) (m + 3) n → CP σ τ (m + 15) (m + 4) n → (∀ k i : Int, k ≠ m + 13 → k ≠ m + 14 → k ≠ m + 15 → τ k i = σ k i) → R2 YX9_layNow 0 τ 2 [some (rf m), some (iv n)] [] (PV fun σ' => CP σ σ' (m + 13) (m + 1) 6 ∧ CP σ σ' (m + 14) (m + 3) 6 ∧ CP σ σ' (m + 15) (m + 4) 6 ∧ CP σ σ' (m + 16) (m + 5) 32 ∧ CP σ σ' (m + 17) (m + 6) 32 ∧ CP σ σ' (m + 18) (m + 7) 32 ∧ CP σ σ' (m + 19) (m + 8) 4 ∧ σ' m 23 = σ m 9 ∧ ∀ k i : Int, k ≠ m + 13 → k ≠ m + 14 → k ≠ m + 15 → k ≠ m + 16 → k ≠ m + 17 → k ≠ m + 18 → k ≠ m + 19 → ¬ (k = m ∧ i = 23) → σ' k i = σ k i) from
    R2.weak (by repeat first | exact trivial | refine And.intro rfl ?_) (hl1 6 0 σ rfl (fun i a b => by omega) (fun i a b => by omega) (fun i a b => by omega) (fun _ _ _ _ _ => rfl))
  intro k
  induction k with
  | zero =>
    intro n τ0 e1 p1 p2 p3 hF
    have e2 : n = 6 := by omega
    subst e2
    refine r_iload_n (Y := YX9_layNow) dX9_layNow_2 rfl ?_
    refine r_bipush (Y := YX9_layNow) dX9_layNow_3 ?_
    refine r_icmp_ge (Y := YX9_layNow) (tgt := 50) dX9_layNow_5 (by decide) (fun c5 => ?_) (fun c5 => absurd c5 (by omega)) 
    refine r_iconst (Y := YX9_layNow) dX9_layNow_50 ?_
    refine r_istore_n (Y := YX9_layNow) dX9_layNow_51 ?_
    suffices hl2 : ∀ (k n : Nat) (τ : ab_S), n + k = 32 → CP σ τ (m + 16) (m + 5) n → CP σ τ (m + 17) (m + 6) n → CP σ τ (m + 18) (m + 7) n → (∀ k i : Int, k ≠ m + 16 → k ≠ m + 17 → k ≠ m + 18 → τ k i = τ0 k i) → R2 YX9_layNow 0 τ 52 [some (rf m), some (iv n)] [] (PV fun σ' => CP σ σ' (m + 13) (m + 1) 6 ∧ CP σ σ' (m + 14) (m + 3) 6 ∧ CP σ σ' (m + 15) (m + 4) 6 ∧ CP σ σ' (m + 16) (m + 5) 32 ∧ CP σ σ' (m + 17) (m + 6) 32 ∧ CP σ σ' (m + 18) (m + 7) 32 ∧ CP σ σ' (m + 19) (m + 8) 4 ∧ σ' m 23 = σ m 9 ∧ ∀ k i : Int, k ≠ m + 13 → k ≠ m + 14 → k ≠ m + 15 → k ≠ m + 16 → k ≠ m + 17 → k ≠ m + 18 → k ≠ m + 19 → ¬ (k = m ∧ i = 23) → σ' k i = σ k i) from
      R2.weak (by repeat first | exact trivial | refine And.intro rfl ?_) (hl2 32 0 τ0 rfl (fun i a b => by omega) (fun i a b => by omega) (fun i a b => by omega) (fun _ _ _ _ _ => rfl))
    intro k
    induction k with
    | zero =>
      intro n τ1 e3 q1 q2 q3 hG
      have e4 : n = 32 := by omega
      subst e4
      refine r_iload_n (Y := YX9_layNow) dX9_layNow_52 rfl ?_
      refine r_bipush (Y := YX9_layNow) dX9_layNow_53 ?_
      refine r_icmp_ge (Y := YX9_layNow) (tgt := 100) dX9_layNow_55 (by decide) (fun c55 => ?_) (fun c55 => absurd c55 (by omega)) 
      refine r_iconst (Y := YX9_layNow) dX9_layNow_100 ?_
      refine r_istore_n (Y := YX9_layNow) dX9_layNow_101 ?_
      suffices hl3 : ∀ (k n : Nat) (τ : ab_S), n + k = 4 → CP σ τ (m + 19) (m + 8) n → (∀ k i : Int, k ≠ m + 19 → τ k i = τ1 k i) → R2 YX9_layNow 0 τ 102 [some (rf m), some (iv n)] [] (PV fun σ' => CP σ σ' (m + 13) (m + 1) 6 ∧ CP σ σ' (m + 14) (m + 3) 6 ∧ CP σ σ' (m + 15) (m + 4) 6 ∧ CP σ σ' (m + 16) (m + 5) 32 ∧ CP σ σ' (m + 17) (m + 6) 32 ∧ CP σ σ' (m + 18) (m + 7) 32 ∧ CP σ σ' (m + 19) (m + 8) 4 ∧ σ' m 23 = σ m 9 ∧ ∀ k i : Int, k ≠ m + 13 → k ≠ m + 14 → k ≠ m + 15 → k ≠ m + 16 → k ≠ m + 17 → k ≠ m + 18 → k ≠ m + 19 → ¬ (k = m ∧ i = 23) → σ' k i = σ k i) from
        R2.weak (by repeat first | exact trivial | refine And.intro rfl ?_) (hl3 4 0 τ1 rfl (fun i a b => by omega) (fun _ _ _ => rfl))
      intro k
      induction k with
      | zero =>
        intro n τ2 e5 r1 hH
        have e6 : n = 4 := by omega
        subst e6
        refine r_iload_n (Y := YX9_layNow) dX9_layNow_102 rfl ?_
        refine r_iconst (Y := YX9_layNow) dX9_layNow_103 ?_
        refine r_icmp_ge (Y := YX9_layNow) (tgt := 125) dX9_layNow_104 (by decide) (fun c104 => ?_) (fun c104 => absurd c104 (by omega)) 
        refine r_aload_n (Y := YX9_layNow) dX9_layNow_125 rfl ?_
        refine r_aload_n (Y := YX9_layNow) dX9_layNow_126 rfl ?_
        refine r_getI (Y := YX9_layNow) (jz := 9) fl_X9_101 dX9_layNow_127 ?_
        refine r_putI (Y := YX9_layNow) (jz := 23) fp_X9_104 dX9_layNow_130 ?_
        refine r_return (Y := YX9_layNow) dX9_layNow_133 ?_
        refine ⟨fun i a b => ?_, fun i a b => ?_, fun i a b => ?_, fun i a b => ?_, fun i a b => ?_, fun i a b => ?_, fun i a b => ?_, ?_, fun k i n0 n1 n2 n3 n4 n5 n6 n7 => ?_⟩
        · rw [← p1 i a (by omega), ← hG _ _ (by omega) (by omega) (by omega), ← hH _ _ (by omega)]; exact (by (try delta up); (try delta cpy); (try dsimp only); repeat (first | rw [if_pos (by omega)] | rw [if_neg (by omega)]); try (first | rfl | assumption | omega))
        · rw [← p2 i a (by omega), ← hG _ _ (by omega) (by omega) (by omega), ← hH _ _ (by omega)]; exact (by (try delta up); (try delta cpy); (try dsimp only); repeat (first | rw [if_pos (by omega)] | rw [if_neg (by omega)]); try (first | rfl | assumption | omega))
        · rw [← p3 i a (by omega), ← hG _ _ (by omega) (by omega) (by omega), ← hH _ _ (by omega)]; exact (by (try delta up); (try delta cpy); (try dsimp only); repeat (first | rw [if_pos (by omega)] | rw [if_neg (by omega)]); try (first | rfl | assumption | omega))
        · rw [← q1 i a (by omega), ← hH _ _ (by omega)]; exact (by (try delta up); (try delta cpy); (try dsimp only); repeat (first | rw [if_pos (by omega)] | rw [if_neg (by omega)]); try (first | rfl | assumption | omega))
        · rw [← q2 i a (by omega), ← hH _ _ (by omega)]; exact (by (try delta up); (try delta cpy); (try dsimp only); repeat (first | rw [if_pos (by omega)] | rw [if_neg (by omega)]); try (first | rfl | assumption | omega))
        · rw [← q3 i a (by omega), ← hH _ _ (by omega)]; exact (by (try delta up); (try delta cpy); (try dsimp only); repeat (first | rw [if_pos (by omega)] | rw [if_neg (by omega)]); try (first | rfl | assumption | omega))
        · rw [← r1 i a (by omega)]; exact (by (try delta up); (try delta cpy); (try dsimp only); repeat (first | rw [if_pos (by omega)] | rw [if_neg (by omega)]); try (first | rfl | assumption | omega))
        · rw [← hF _ _ (by omega) (by omega) (by omega), ← hG _ _ (by omega) (by omega) (by omega), ← hH _ _ (by omega)]; exact (by (try delta up); (try delta cpy); (try dsimp only); repeat (first | rw [if_pos (by omega)] | rw [if_neg (by omega)]); try (first | rfl | assumption | omega))
        · rw [← hF _ _ (by omega) (by omega) (by omega), ← hG _ _ (by omega) (by omega) (by omega), ← hH _ _ (by omega)]; exact (by (try delta up); (try delta cpy); (try dsimp only); repeat (first | rw [if_pos (by omega)] | rw [if_neg (by omega)]); try (first | rfl | assumption | omega))
      | succ k ih3 =>
        intro n τ2 e5 r1 hH
        refine r_iload_n (Y := YX9_layNow) dX9_layNow_102 rfl ?_
        refine r_iconst (Y := YX9_layNow) dX9_layNow_103 ?_
        refine r_icmp_ge (Y := YX9_layNow) (tgt := 125) dX9_layNow_104 (by decide) (fun c104 => absurd c104 (by omega)) (fun c104 => ?_) 
        refine r_aload_n (Y := YX9_layNow) dX9_layNow_107 rfl ?_
        refine r_getR (Y := YX9_layNow) (δz := 19) fl_X9_64 dX9_layNow_108 rfl rfl ?_
        refine r_iload_n (Y := YX9_layNow) dX9_layNow_111 rfl ?_
        refine r_aload_n (Y := YX9_layNow) dX9_layNow_112 rfl ?_
        refine r_getR (Y := YX9_layNow) (δz := 8) fl_X9_31 dX9_layNow_113 rfl rfl ?_
        refine r_iload_n (Y := YX9_layNow) dX9_layNow_116 rfl ?_
        refine r_iaV (Y := YX9_layNow) (v := σ (m + 8) n) dX9_layNow_117 ((by rw [hH _ _ (by omega), hG _ _ (by omega) (by omega) (by omega), hF _ _ (by omega) (by omega) (by omega)])) ?_
        refine r_iastore (Y := YX9_layNow) dX9_layNow_118 ?_
        refine r_iinc (Y := YX9_layNow) dX9_layNow_119 rfl ?_
        refine r_goto (Y := YX9_layNow) (tgt := 102) dX9_layNow_122 (by decide) ?_
        refine R2.weak (by repeat first | exact trivial | refine And.intro rfl ?_) (ih3 (n + 1) _ (by omega) (fun i a b => ?_) (fun k i h9 => by rw [← hH k i h9]; exact (by (try delta up); (try delta cpy); (try dsimp only); repeat (first | rw [if_pos (by omega)] | rw [if_neg (by omega)]); try (first | rfl | assumption | omega))))
        by_cases e : i = n
        · subst e; exact up_same _ _ _ _
        · rw [← r1 i a (by omega)]; exact (by (try delta up); (try delta cpy); (try dsimp only); repeat (first | rw [if_pos (by omega)] | rw [if_neg (by omega)]); try (first | rfl | assumption | omega))
    | succ k ih2 =>
      intro n τ1 e3 q1 q2 q3 hG
      refine r_iload_n (Y := YX9_layNow) dX9_layNow_52 rfl ?_
      refine r_bipush (Y := YX9_layNow) dX9_layNow_53 ?_
      refine r_icmp_ge (Y := YX9_layNow) (tgt := 100) dX9_layNow_55 (by decide) (fun c55 => absurd c55 (by omega)) (fun c55 => ?_) 
      refine r_aload_n (Y := YX9_layNow) dX9_layNow_58 rfl ?_
      refine r_getR (Y := YX9_layNow) (δz := 16) fl_X9_55 dX9_layNow_59 rfl rfl ?_
      refine r_iload_n (Y := YX9_layNow) dX9_layNow_62 rfl ?_
      refine r_aload_n (Y := YX9_layNow) dX9_layNow_63 rfl ?_
      refine r_getR (Y := YX9_layNow) (δz := 5) fl_X9_22 dX9_layNow_64 rfl rfl ?_
      refine r_iload_n (Y := YX9_layNow) dX9_layNow_67 rfl ?_
      refine r_iaV (Y := YX9_layNow) (v := σ (m + 5) n) dX9_layNow_68 ((Eq.trans (b := τ1 (m + 5) n) (by (try delta up); (try delta cpy); (try dsimp only); repeat (first | rw [if_pos (by omega)] | rw [if_neg (by omega)]); try (first | rfl | assumption | omega)) ((hG _ _ (by omega) (by omega) (by omega)).trans (hF _ _ (by omega) (by omega) (by omega))))) ?_
      refine r_iastore (Y := YX9_layNow) dX9_layNow_69 ?_
      refine r_aload_n (Y := YX9_layNow) dX9_layNow_70 rfl ?_
      refine r_getR (Y := YX9_layNow) (δz := 17) fl_X9_58 dX9_layNow_71 rfl rfl ?_
      refine r_iload_n (Y := YX9_layNow) dX9_layNow_74 rfl ?_
      refine r_aload_n (Y := YX9_layNow) dX9_layNow_75 rfl ?_
      refine r_getR (Y := YX9_layNow) (δz := 6) fl_X9_25 dX9_layNow_76 rfl rfl ?_
      refine r_iload_n (Y := YX9_layNow) dX9_layNow_79 rfl ?_
      refine r_iaV (Y := YX9_layNow) (v := σ (m + 6) n) dX9_layNow_80 ((Eq.trans (b := τ1 (m + 6) n) (by (try delta up); (try delta cpy); (try dsimp only); repeat (first | rw [if_pos (by omega)] | rw [if_neg (by omega)]); try (first | rfl | assumption | omega)) ((hG _ _ (by omega) (by omega) (by omega)).trans (hF _ _ (by omega) (by omega) (by omega))))) ?_
      refine r_iastore (Y := YX9_layNow) dX9_layNow_81 ?_
      refine r_aload_n (Y := YX9_layNow) dX9_layNow_82 rfl ?_
      refine r_getR (Y := YX9_layNow) (δz := 18) fl_X9_61 dX9_layNow_83 rfl rfl ?_
      refine r_iload_n (Y := YX9_layNow) dX9_layNow_86 rfl ?_
      refine r_aload_n (Y := YX9_layNow) dX9_layNow_87 rfl ?_
      refine r_getR (Y := YX9_layNow) (δz := 7) fl_X9_28 dX9_layNow_88 rfl rfl ?_
      refine r_iload_n (Y := YX9_layNow) dX9_layNow_91 rfl ?_
      refine r_iaV (Y := YX9_layNow) (v := σ (m + 7) n) dX9_layNow_92 ((Eq.trans (b := τ1 (m + 7) n) (by (try delta up); (try delta cpy); (try dsimp only); repeat (first | rw [if_pos (by omega)] | rw [if_neg (by omega)]); try (first | rfl | assumption | omega)) ((hG _ _ (by omega) (by omega) (by omega)).trans (hF _ _ (by omega) (by omega) (by omega))))) ?_
      refine r_iastore (Y := YX9_layNow) dX9_layNow_93 ?_
      refine r_iinc (Y := YX9_layNow) dX9_layNow_94 rfl ?_
      refine r_goto (Y := YX9_layNow) (tgt := 52) dX9_layNow_97 (by decide) ?_
      refine R2.weak (by repeat first | exact trivial | refine And.intro rfl ?_) (ih2 (n + 1) _ (by omega) (fun i a b => ?_) (fun i a b => ?_) (fun i a b => ?_) (fun k i h7 h8 h9 => by rw [← hG k i h7 h8 h9]; exact (by (try delta up); (try delta cpy); (try dsimp only); repeat (first | rw [if_pos (by omega)] | rw [if_neg (by omega)]); try (first | rfl | assumption | omega))))
      · by_cases e : i = n
        · subst e; exact (by (try delta up); (try delta cpy); (try dsimp only); repeat (first | rw [if_pos (by omega)] | rw [if_neg (by omega)]); try (first | rfl | assumption | omega))
        · rw [← q1 i a (by omega)]; exact (by (try delta up); (try delta cpy); (try dsimp only); repeat (first | rw [if_pos (by omega)] | rw [if_neg (by omega)]); try (first | rfl | assumption | omega))
      · by_cases e : i = n
        · subst e; exact (by (try delta up); (try delta cpy); (try dsimp only); repeat (first | rw [if_pos (by omega)] | rw [if_neg (by omega)]); try (first | rfl | assumption | omega))
        · rw [← q2 i a (by omega)]; exact (by (try delta up); (try delta cpy); (try dsimp only); repeat (first | rw [if_pos (by omega)] | rw [if_neg (by omega)]); try (first | rfl | assumption | omega))
      · by_cases e : i = n
        · subst e; exact (by (try delta up); (try delta cpy); (try dsimp only); repeat (first | rw [if_pos (by omega)] | rw [if_neg (by omega)]); try (first | rfl | assumption | omega))
        · rw [← q3 i a (by omega)]; exact (by (try delta up); (try delta cpy); (try dsimp only); repeat (first | rw [if_pos (by omega)] | rw [if_neg (by omega)]); try (first | rfl | assumption | omega))
  | succ k ih =>
    intro n τ0 e1 p1 p2 p3 hF
    refine r_iload_n (Y := YX9_layNow) dX9_layNow_2 rfl ?_
    refine r_bipush (Y := YX9_layNow) dX9_layNow_3 ?_
    refine r_icmp_ge (Y := YX9_layNow) (tgt := 50) dX9_layNow_5 (by decide) (fun c5 => absurd c5 (by omega)) (fun c5 => ?_) 
    refine r_aload_n (Y := YX9_layNow) dX9_layNow_8 rfl ?_
    refine r_getR (Y := YX9_layNow) (δz := 13) fl_X9_46 dX9_layNow_9 rfl rfl ?_
    refine r_iload_n (Y := YX9_layNow) dX9_layNow_12 rfl ?_
    refine r_aload_n (Y := YX9_layNow) dX9_layNow_13 rfl ?_
    refine r_getR (Y := YX9_layNow) (δz := 1) fl_X9_7 dX9_layNow_14 rfl rfl ?_
    refine r_iload_n (Y := YX9_layNow) dX9_layNow_17 rfl ?_
    refine r_iaV (Y := YX9_layNow) (v := σ (m + 1) n) dX9_layNow_18 ((Eq.trans (b := τ0 (m + 1) n) (by (try delta up); (try delta cpy); (try dsimp only); repeat (first | rw [if_pos (by omega)] | rw [if_neg (by omega)]); try (first | rfl | assumption | omega)) (hF _ _ (by omega) (by omega) (by omega)))) ?_
    refine r_iastore (Y := YX9_layNow) dX9_layNow_19 ?_
    refine r_aload_n (Y := YX9_layNow) dX9_layNow_20 rfl ?_
    refine r_getR (Y := YX9_layNow) (δz := 14) fl_X9_49 dX9_layNow_21 rfl rfl ?_
    refine r_iload_n (Y := YX9_layNow) dX9_layNow_24 rfl ?_
    refine r_aload_n (Y := YX9_layNow) dX9_layNow_25 rfl ?_
    refine r_getR (Y := YX9_layNow) (δz := 3) fl_X9_16 dX9_layNow_26 rfl rfl ?_
    refine r_iload_n (Y := YX9_layNow) dX9_layNow_29 rfl ?_
    refine r_iaV (Y := YX9_layNow) (v := σ (m + 3) n) dX9_layNow_30 ((Eq.trans (b := τ0 (m + 3) n) (by (try delta up); (try delta cpy); (try dsimp only); repeat (first | rw [if_pos (by omega)] | rw [if_neg (by omega)]); try (first | rfl | assumption | omega)) (hF _ _ (by omega) (by omega) (by omega)))) ?_
    refine r_iastore (Y := YX9_layNow) dX9_layNow_31 ?_
    refine r_aload_n (Y := YX9_layNow) dX9_layNow_32 rfl ?_
    refine r_getR (Y := YX9_layNow) (δz := 15) fl_X9_52 dX9_layNow_33 rfl rfl ?_
    refine r_iload_n (Y := YX9_layNow) dX9_layNow_36 rfl ?_
    refine r_aload_n (Y := YX9_layNow) dX9_layNow_37 rfl ?_
    refine r_getR (Y := YX9_layNow) (δz := 4) fl_X9_19 dX9_layNow_38 rfl rfl ?_
    refine r_iload_n (Y := YX9_layNow) dX9_layNow_41 rfl ?_
    refine r_iaV (Y := YX9_layNow) (v := σ (m + 4) n) dX9_layNow_42 ((Eq.trans (b := τ0 (m + 4) n) (by (try delta up); (try delta cpy); (try dsimp only); repeat (first | rw [if_pos (by omega)] | rw [if_neg (by omega)]); try (first | rfl | assumption | omega)) (hF _ _ (by omega) (by omega) (by omega)))) ?_
    refine r_iastore (Y := YX9_layNow) dX9_layNow_43 ?_
    refine r_iinc (Y := YX9_layNow) dX9_layNow_44 rfl ?_
    refine r_goto (Y := YX9_layNow) (tgt := 2) dX9_layNow_47 (by decide) ?_
    refine R2.weak (by repeat first | exact trivial | refine And.intro rfl ?_) (ih (n + 1) _ (by omega) (fun i a b => ?_) (fun i a b => ?_) (fun i a b => ?_) (fun k i h7 h8 h9 => by rw [← hF k i h7 h8 h9]; exact (by (try delta up); (try delta cpy); (try dsimp only); repeat (first | rw [if_pos (by omega)] | rw [if_neg (by omega)]); try (first | rfl | assumption | omega))))
    · by_cases e : i = n
      · subst e; exact (by (try delta up); (try delta cpy); (try dsimp only); repeat (first | rw [if_pos (by omega)] | rw [if_neg (by omega)]); try (first | rfl | assumption | omega))
      · rw [← p1 i a (by omega)]; exact (by (try delta up); (try delta cpy); (try dsimp only); repeat (first | rw [if_pos (by omega)] | rw [if_neg (by omega)]); try (first | rfl | assumption | omega))
    · by_cases e : i = n
      · subst e; exact (by (try delta up); (try delta cpy); (try dsimp only); repeat (first | rw [if_pos (by omega)] | rw [if_neg (by omega)]); try (first | rfl | assumption | omega))
      · rw [← p2 i a (by omega)]; exact (by (try delta up); (try delta cpy); (try dsimp only); repeat (first | rw [if_pos (by omega)] | rw [if_neg (by omega)]); try (first | rfl | assumption | omega))
    · by_cases e : i = n
      · subst e; exact (by (try delta up); (try delta cpy); (try dsimp only); repeat (first | rw [if_pos (by omega)] | rw [if_neg (by omega)]); try (first | rfl | assumption | omega))
      · rw [← p3 i a (by omega)]; exact (by (try delta up); (try delta cpy); (try dsimp only); repeat (first | rw [if_pos (by omega)] | rw [if_neg (by omega)]); try (first | rfl | assumption | omega))
set_option maxRecDepth 20000 in
theorem c_X9_keepTried {σ : ab_S} {m : Int} (hm : kd_ m 9 37) : C2 YX9_keepTried 0 σ [rf m] (PV fun σ' => CP σ σ' (m + 1) (m + 13) 6 ∧ CP σ σ' (m + 3) (m + 14) 6 ∧ CP σ σ' (m + 4) (m + 15) 6 ∧ CP σ σ' (m + 5) (m + 16) 32 ∧ CP σ σ' (m + 6) (m + 17) 32 ∧ CP σ σ' (m + 7) (m + 18) 32 ∧ CP σ σ' (m + 8) (m + 19) 4 ∧ σ' m 9 = σ m 23 ∧ ∀ k i : Int, k ≠ m + 1 → k ≠ m + 3 → k ≠ m + 4 → k ≠ m + 5 → k ≠ m + 6 → k ≠ m + 7 → k ≠ m + 8 → ¬ (k = m ∧ i = 9) → σ' k i = σ k i) := by
  obtain ⟨k1, k2, k3, k4, k5, k6, k7, k8, k9, k10, k11, k12, k13, k14, k15, k16, k17, k18, k19, k20, k21, k22, k23, k24, k25, k26⟩ := kd_model hm
  refine C2.of (by decide +kernel) (Nat.le_of_ble_eq_true rfl) ?_
  refine r_iconst (Y := YX9_keepTried) dX9_keepTried_0 ?_
  refine r_istore_n (Y := YX9_keepTried) dX9_keepTried_1 ?_
  suffices hl1 : ∀ (k n : Nat) (τ : ab_S), n + k = 6 → CP σ τ (m + 1) (m + 13) n → CP σ τ (m + 3) (m + 14) n → CP σ τ (m + 4) (m + 15) n → (∀ k i : Int, k ≠ m + 1 → k ≠ m + 3 → k ≠ m + 4 → τ k i = σ k i) → R2 YX9_keepTried 0 τ 2 [some (rf m), some (iv n)] [] (PV fun σ' => CP σ σ' (m + 1) (m + 13) 6 ∧ CP σ σ' (m + 3) (m + 14) 6 ∧ CP σ σ' (m + 4) (m + 15) 6 ∧ CP σ σ' (m + 5) (m + 16) 32 ∧ CP σ σ' (m + 6) (m + 17) 32 ∧ CP σ σ' (m + 7) (m + 18) 32 ∧ CP σ σ' (m + 8) (m + 19) 4 ∧ σ' m 9 = σ m 23 ∧ ∀ k i : Int, k ≠ m + 1 → k ≠ m + 3 → k ≠ m + 4 → k ≠ m + 5 → k ≠ m + 6 → k ≠ m + 7 → k ≠ m + 8 → ¬ (k = m ∧ i = 9) → σ' k i = σ k i) from
    R2.weak (by repeat first | exact trivial | refine And.intro rfl ?_) (hl1 6 0 σ rfl (fun i a b => by omega) (fun i a b => by omega) (fun i a b => by omega) (fun _ _ _ _ _ => rfl))
  intro k
  induction k with
  | zero =>
    intro n τ0 e1 p1 p2 p3 hF
    have e2 : n = 6 := by omega
    subst e2
    refine r_iload_n (Y := YX9_keepTried) dX9_keepTried_2 rfl ?_
    refine r_bipush (Y := YX9_keepTried) dX9_keepTried_3 ?_
    refine r_icmp_ge (Y := YX9_keepTried) (tgt := 50) dX9_keepTried_5 (by decide) (fun c5 => ?_) (fun c5 => absurd c5 (by omega)) 
    refine r_iconst (Y := YX9_keepTried) dX9_keepTried_50 ?_
    refine r_istore_n (Y := YX9_keepTried) dX9_keepTried_51 ?_
    suffices hl2 : ∀ (k n : Nat) (τ : ab_S), n + k = 32 → CP σ τ (m + 5) (m + 16) n → CP σ τ (m + 6) (m + 17) n → CP σ τ (m + 7) (m + 18) n → (∀ k i : Int, k ≠ m + 5 → k ≠ m + 6 → k ≠ m + 7 → τ k i = τ0 k i) → R2 YX9_keepTried 0 τ 52 [some (rf m), some (iv n)] [] (PV fun σ' => CP σ σ' (m + 1) (m + 13) 6 ∧ CP σ σ' (m + 3) (m + 14) 6 ∧ CP σ σ' (m + 4) (m + 15) 6 ∧ CP σ σ' (m + 5) (m + 16) 32 ∧ CP σ σ' (m + 6) (m + 17) 32 ∧ CP σ σ' (m + 7) (m + 18) 32 ∧ CP σ σ' (m + 8) (m + 19) 4 ∧ σ' m 9 = σ m 23 ∧ ∀ k i : Int, k ≠ m + 1 → k ≠ m + 3 → k ≠ m + 4 → k ≠ m + 5 → k ≠ m + 6 → k ≠ m + 7 → k ≠ m + 8 → ¬ (k = m ∧ i = 9) → σ' k i = σ k i) from
      R2.weak (by repeat first | exact trivial | refine And.intro rfl ?_) (hl2 32 0 τ0 rfl (fun i a b => by omega) (fun i a b => by omega) (fun i a b => by omega) (fun _ _ _ _ _ => rfl))
    intro k
    induction k with
    | zero =>
      intro n τ1 e3 q1 q2 q3 hG
      have e4 : n = 32 := by omega
      subst e4
      refine r_iload_n (Y := YX9_keepTried) dX9_keepTried_52 rfl ?_
      refine r_bipush (Y := YX9_keepTried) dX9_keepTried_53 ?_
      refine r_icmp_ge (Y := YX9_keepTried) (tgt := 100) dX9_keepTried_55 (by decide) (fun c55 => ?_) (fun c55 => absurd c55 (by omega)) 
      refine r_iconst (Y := YX9_keepTried) dX9_keepTried_100 ?_
      refine r_istore_n (Y := YX9_keepTried) dX9_keepTried_101 ?_
      suffices hl3 : ∀ (k n : Nat) (τ : ab_S), n + k = 4 → CP σ τ (m + 8) (m + 19) n → (∀ k i : Int, k ≠ m + 8 → τ k i = τ1 k i) → R2 YX9_keepTried 0 τ 102 [some (rf m), some (iv n)] [] (PV fun σ' => CP σ σ' (m + 1) (m + 13) 6 ∧ CP σ σ' (m + 3) (m + 14) 6 ∧ CP σ σ' (m + 4) (m + 15) 6 ∧ CP σ σ' (m + 5) (m + 16) 32 ∧ CP σ σ' (m + 6) (m + 17) 32 ∧ CP σ σ' (m + 7) (m + 18) 32 ∧ CP σ σ' (m + 8) (m + 19) 4 ∧ σ' m 9 = σ m 23 ∧ ∀ k i : Int, k ≠ m + 1 → k ≠ m + 3 → k ≠ m + 4 → k ≠ m + 5 → k ≠ m + 6 → k ≠ m + 7 → k ≠ m + 8 → ¬ (k = m ∧ i = 9) → σ' k i = σ k i) from
        R2.weak (by repeat first | exact trivial | refine And.intro rfl ?_) (hl3 4 0 τ1 rfl (fun i a b => by omega) (fun _ _ _ => rfl))
      intro k
      induction k with
      | zero =>
        intro n τ2 e5 r1 hH
        have e6 : n = 4 := by omega
        subst e6
        refine r_iload_n (Y := YX9_keepTried) dX9_keepTried_102 rfl ?_
        refine r_iconst (Y := YX9_keepTried) dX9_keepTried_103 ?_
        refine r_icmp_ge (Y := YX9_keepTried) (tgt := 125) dX9_keepTried_104 (by decide) (fun c104 => ?_) (fun c104 => absurd c104 (by omega)) 
        refine r_aload_n (Y := YX9_keepTried) dX9_keepTried_125 rfl ?_
        refine r_aload_n (Y := YX9_keepTried) dX9_keepTried_126 rfl ?_
        refine r_getI (Y := YX9_keepTried) (jz := 23) fl_X9_104 dX9_keepTried_127 ?_
        refine r_putI (Y := YX9_keepTried) (jz := 9) fp_X9_101 dX9_keepTried_130 ?_
        refine r_return (Y := YX9_keepTried) dX9_keepTried_133 ?_
        refine ⟨fun i a b => ?_, fun i a b => ?_, fun i a b => ?_, fun i a b => ?_, fun i a b => ?_, fun i a b => ?_, fun i a b => ?_, ?_, fun k i n0 n1 n2 n3 n4 n5 n6 n7 => ?_⟩
        · rw [← p1 i a (by omega), ← hG _ _ (by omega) (by omega) (by omega), ← hH _ _ (by omega)]; exact (by (try delta up); (try delta cpy); (try dsimp only); repeat (first | rw [if_pos (by omega)] | rw [if_neg (by omega)]); try (first | rfl | assumption | omega))
        · rw [← p2 i a (by omega), ← hG _ _ (by omega) (by omega) (by omega), ← hH _ _ (by omega)]; exact (by (try delta up); (try delta cpy); (try dsimp only); repeat (first | rw [if_pos (by omega)] | rw [if_neg (by omega)]); try (first | rfl | assumption | omega))
        · rw [← p3 i a (by omega), ← hG _ _ (by omega) (by omega) (by omega), ← hH _ _ (by omega)]; exact (by (try delta up); (try delta cpy); (try dsimp only); repeat (first | rw [if_pos (by omega)] | rw [if_neg (by omega)]); try (first | rfl | assumption | omega))
        · rw [← q1 i a (by omega), ← hH _ _ (by omega)]; exact (by (try delta up); (try delta cpy); (try dsimp only); repeat (first | rw [if_pos (by omega)] | rw [if_neg (by omega)]); try (first | rfl | assumption | omega))
        · rw [← q2 i a (by omega), ← hH _ _ (by omega)]; exact (by (try delta up); (try delta cpy); (try dsimp only); repeat (first | rw [if_pos (by omega)] | rw [if_neg (by omega)]); try (first | rfl | assumption | omega))
        · rw [← q3 i a (by omega), ← hH _ _ (by omega)]; exact (by (try delta up); (try delta cpy); (try dsimp only); repeat (first | rw [if_pos (by omega)] | rw [if_neg (by omega)]); try (first | rfl | assumption | omega))
        · rw [← r1 i a (by omega)]; exact (by (try delta up); (try delta cpy); (try dsimp only); repeat (first | rw [if_pos (by omega)] | rw [if_neg (by omega)]); try (first | rfl | assumption | omega))
        · rw [← hF _ _ (by omega) (by omega) (by omega), ← hG _ _ (by omega) (by omega) (by omega), ← hH _ _ (by omega)]; exact (by (try delta up); (try delta cpy); (try dsimp only); repeat (first | rw [if_pos (by omega)] | rw [if_neg (by omega)]); try (first | rfl | assumption | omega))
        · rw [← hF _ _ (by omega) (by omega) (by omega), ← hG _ _ (by omega) (by omega) (by omega), ← hH _ _ (by omega)]; exact (by (try delta up); (try delta cpy); (try dsimp only); repeat (first | rw [if_pos (by omega)] | rw [if_neg (by omega)]); try (first | rfl | assumption | omega))
      | succ k ih3 =>
        intro n τ2 e5 r1 hH
        refine r_iload_n (Y := YX9_keepTried) dX9_keepTried_102 rfl ?_
        refine r_iconst (Y := YX9_keepTried) dX9_keepTried_103 ?_
        refine r_icmp_ge (Y := YX9_keepTried) (tgt := 125) dX9_keepTried_104 (by decide) (fun c104 => absurd c104 (by omega)) (fun c104 => ?_) 
        refine r_aload_n (Y := YX9_keepTried) dX9_keepTried_107 rfl ?_
        refine r_getR (Y := YX9_keepTried) (δz := 8) fl_X9_31 dX9_keepTried_108 rfl rfl ?_
        refine r_iload_n (Y := YX9_keepTried) dX9_keepTried_111 rfl ?_
        refine r_aload_n (Y := YX9_keepTried) dX9_keepTried_112 rfl ?_
        refine r_getR (Y := YX9_keepTried) (δz := 19) fl_X9_64 dX9_keepTried_113 rfl rfl ?_
        refine r_iload_n (Y := YX9_keepTried) dX9_keepTried_116 rfl ?_
        refine r_iaV (Y := YX9_keepTried) (v := σ (m + 19) n) dX9_keepTried_117 ((by rw [hH _ _ (by omega), hG _ _ (by omega) (by omega) (by omega), hF _ _ (by omega) (by omega) (by omega)])) ?_
        refine r_iastore (Y := YX9_keepTried) dX9_keepTried_118 ?_
        refine r_iinc (Y := YX9_keepTried) dX9_keepTried_119 rfl ?_
        refine r_goto (Y := YX9_keepTried) (tgt := 102) dX9_keepTried_122 (by decide) ?_
        refine R2.weak (by repeat first | exact trivial | refine And.intro rfl ?_) (ih3 (n + 1) _ (by omega) (fun i a b => ?_) (fun k i h9 => by rw [← hH k i h9]; exact (by (try delta up); (try delta cpy); (try dsimp only); repeat (first | rw [if_pos (by omega)] | rw [if_neg (by omega)]); try (first | rfl | assumption | omega))))
        by_cases e : i = n
        · subst e; exact up_same _ _ _ _
        · rw [← r1 i a (by omega)]; exact (by (try delta up); (try delta cpy); (try dsimp only); repeat (first | rw [if_pos (by omega)] | rw [if_neg (by omega)]); try (first | rfl | assumption | omega))
    | succ k ih2 =>
      intro n τ1 e3 q1 q2 q3 hG
      refine r_iload_n (Y := YX9_keepTried) dX9_keepTried_52 rfl ?_
      refine r_bipush (Y := YX9_keepTried) dX9_keepTried_53 ?_
      refine r_icmp_ge (Y := YX9_keepTried) (tgt := 100) dX9_keepTried_55 (by decide) (fun c55 => absurd c55 (by omega)) (fun c55 => ?_) 
      refine r_aload_n (Y := YX9_keepTried) dX9_keepTried_58 rfl ?_
      refine r_getR (Y := YX9_keepTried) (δz := 5) fl_X9_22 dX9_keepTried_59 rfl rfl ?_
      refine r_iload_n (Y := YX9_keepTried) dX9_keepTried_62 rfl ?_
      refine r_aload_n (Y := YX9_keepTried) dX9_keepTried_63 rfl ?_
      refine r_getR (Y := YX9_keepTried) (δz := 16) fl_X9_55 dX9_keepTried_64 rfl rfl ?_
      refine r_iload_n (Y := YX9_keepTried) dX9_keepTried_67 rfl ?_
      refine r_iaV (Y := YX9_keepTried) (v := σ (m + 16) n) dX9_keepTried_68 ((Eq.trans (b := τ1 (m + 16) n) (by (try delta up); (try delta cpy); (try dsimp only); repeat (first | rw [if_pos (by omega)] | rw [if_neg (by omega)]); try (first | rfl | assumption | omega)) ((hG _ _ (by omega) (by omega) (by omega)).trans (hF _ _ (by omega) (by omega) (by omega))))) ?_
      refine r_iastore (Y := YX9_keepTried) dX9_keepTried_69 ?_
      refine r_aload_n (Y := YX9_keepTried) dX9_keepTried_70 rfl ?_
      refine r_getR (Y := YX9_keepTried) (δz := 6) fl_X9_25 dX9_keepTried_71 rfl rfl ?_
      refine r_iload_n (Y := YX9_keepTried) dX9_keepTried_74 rfl ?_
      refine r_aload_n (Y := YX9_keepTried) dX9_keepTried_75 rfl ?_
      refine r_getR (Y := YX9_keepTried) (δz := 17) fl_X9_58 dX9_keepTried_76 rfl rfl ?_
      refine r_iload_n (Y := YX9_keepTried) dX9_keepTried_79 rfl ?_
      refine r_iaV (Y := YX9_keepTried) (v := σ (m + 17) n) dX9_keepTried_80 ((Eq.trans (b := τ1 (m + 17) n) (by (try delta up); (try delta cpy); (try dsimp only); repeat (first | rw [if_pos (by omega)] | rw [if_neg (by omega)]); try (first | rfl | assumption | omega)) ((hG _ _ (by omega) (by omega) (by omega)).trans (hF _ _ (by omega) (by omega) (by omega))))) ?_
      refine r_iastore (Y := YX9_keepTried) dX9_keepTried_81 ?_
      refine r_aload_n (Y := YX9_keepTried) dX9_keepTried_82 rfl ?_
      refine r_getR (Y := YX9_keepTried) (δz := 7) fl_X9_28 dX9_keepTried_83 rfl rfl ?_
      refine r_iload_n (Y := YX9_keepTried) dX9_keepTried_86 rfl ?_
      refine r_aload_n (Y := YX9_keepTried) dX9_keepTried_87 rfl ?_
      refine r_getR (Y := YX9_keepTried) (δz := 18) fl_X9_61 dX9_keepTried_88 rfl rfl ?_
      refine r_iload_n (Y := YX9_keepTried) dX9_keepTried_91 rfl ?_
      refine r_iaV (Y := YX9_keepTried) (v := σ (m + 18) n) dX9_keepTried_92 ((Eq.trans (b := τ1 (m + 18) n) (by (try delta up); (try delta cpy); (try dsimp only); repeat (first | rw [if_pos (by omega)] | rw [if_neg (by omega)]); try (first | rfl | assumption | omega)) ((hG _ _ (by omega) (by omega) (by omega)).trans (hF _ _ (by omega) (by omega) (by omega))))) ?_
      refine r_iastore (Y := YX9_keepTried) dX9_keepTried_93 ?_
      refine r_iinc (Y := YX9_keepTried) dX9_keepTried_94 rfl ?_
      refine r_goto (Y := YX9_keepTried) (tgt := 52) dX9_keepTried_97 (by decide) ?_
      refine R2.weak (by repeat first | exact trivial | refine And.intro rfl ?_) (ih2 (n + 1) _ (by omega) (fun i a b => ?_) (fun i a b => ?_) (fun i a b => ?_) (fun k i h7 h8 h9 => by rw [← hG k i h7 h8 h9]; exact (by (try delta up); (try delta cpy); (try dsimp only); repeat (first | rw [if_pos (by omega)] | rw [if_neg (by omega)]); try (first | rfl | assumption | omega))))
      · by_cases e : i = n
        · subst e; exact (by (try delta up); (try delta cpy); (try dsimp only); repeat (first | rw [if_pos (by omega)] | rw [if_neg (by omega)]); try (first | rfl | assumption | omega))
        · rw [← q1 i a (by omega)]; exact (by (try delta up); (try delta cpy); (try dsimp only); repeat (first | rw [if_pos (by omega)] | rw [if_neg (by omega)]); try (first | rfl | assumption | omega))
      · by_cases e : i = n
        · subst e; exact (by (try delta up); (try delta cpy); (try dsimp only); repeat (first | rw [if_pos (by omega)] | rw [if_neg (by omega)]); try (first | rfl | assumption | omega))
        · rw [← q2 i a (by omega)]; exact (by (try delta up); (try delta cpy); (try dsimp only); repeat (first | rw [if_pos (by omega)] | rw [if_neg (by omega)]); try (first | rfl | assumption | omega))
      · by_cases e : i = n
        · subst e; exact (by (try delta up); (try delta cpy); (try dsimp only); repeat (first | rw [if_pos (by omega)] | rw [if_neg (by omega)]); try (first | rfl | assumption | omega))
        · rw [← q3 i a (by omega)]; exact (by (try delta up); (try delta cpy); (try dsimp only); repeat (first | rw [if_pos (by omega)] | rw [if_neg (by omega)]); try (first | rfl | assumption | omega))
  | succ k ih =>
    intro n τ0 e1 p1 p2 p3 hF
    refine r_iload_n (Y := YX9_keepTried) dX9_keepTried_2 rfl ?_
    refine r_bipush (Y := YX9_keepTried) dX9_keepTried_3 ?_
    refine r_icmp_ge (Y := YX9_keepTried) (tgt := 50) dX9_keepTried_5 (by decide) (fun c5 => absurd c5 (by omega)) (fun c5 => ?_) 
    refine r_aload_n (Y := YX9_keepTried) dX9_keepTried_8 rfl ?_
    refine r_getR (Y := YX9_keepTried) (δz := 1) fl_X9_7 dX9_keepTried_9 rfl rfl ?_
    refine r_iload_n (Y := YX9_keepTried) dX9_keepTried_12 rfl ?_
    refine r_aload_n (Y := YX9_keepTried) dX9_keepTried_13 rfl ?_
    refine r_getR (Y := YX9_keepTried) (δz := 13) fl_X9_46 dX9_keepTried_14 rfl rfl ?_
    refine r_iload_n (Y := YX9_keepTried) dX9_keepTried_17 rfl ?_
    refine r_iaV (Y := YX9_keepTried) (v := σ (m + 13) n) dX9_keepTried_18 ((Eq.trans (b := τ0 (m + 13) n) (by (try delta up); (try delta cpy); (try dsimp only); repeat (first | rw [if_pos (by omega)] | rw [if_neg (by omega)]); try (first | rfl | assumption | omega)) (hF _ _ (by omega) (by omega) (by omega)))) ?_
    refine r_iastore (Y := YX9_keepTried) dX9_keepTried_19 ?_
    refine r_aload_n (Y := YX9_keepTried) dX9_keepTried_20 rfl ?_
    refine r_getR (Y := YX9_keepTried) (δz := 3) fl_X9_16 dX9_keepTried_21 rfl rfl ?_
    refine r_iload_n (Y := YX9_keepTried) dX9_keepTried_24 rfl ?_
    refine r_aload_n (Y := YX9_keepTried) dX9_keepTried_25 rfl ?_
    refine r_getR (Y := YX9_keepTried) (δz := 14) fl_X9_49 dX9_keepTried_26 rfl rfl ?_
    refine r_iload_n (Y := YX9_keepTried) dX9_keepTried_29 rfl ?_
    refine r_iaV (Y := YX9_keepTried) (v := σ (m + 14) n) dX9_keepTried_30 ((Eq.trans (b := τ0 (m + 14) n) (by (try delta up); (try delta cpy); (try dsimp only); repeat (first | rw [if_pos (by omega)] | rw [if_neg (by omega)]); try (first | rfl | assumption | omega)) (hF _ _ (by omega) (by omega) (by omega)))) ?_
    refine r_iastore (Y := YX9_keepTried) dX9_keepTried_31 ?_
    refine r_aload_n (Y := YX9_keepTried) dX9_keepTried_32 rfl ?_
    refine r_getR (Y := YX9_keepTried) (δz := 4) fl_X9_19 dX9_keepTried_33 rfl rfl ?_
    refine r_iload_n (Y := YX9_keepTried) dX9_keepTried_36 rfl ?_
    refine r_aload_n (Y := YX9_keepTried) dX9_keepTried_37 rfl ?_
    refine r_getR (Y := YX9_keepTried) (δz := 15) fl_X9_52 dX9_keepTried_38 rfl rfl ?_
    refine r_iload_n (Y := YX9_keepTried) dX9_keepTried_41 rfl ?_
    refine r_iaV (Y := YX9_keepTried) (v := σ (m + 15) n) dX9_keepTried_42 ((Eq.trans (b := τ0 (m + 15) n) (by (try delta up); (try delta cpy); (try dsimp only); repeat (first | rw [if_pos (by omega)] | rw [if_neg (by omega)]); try (first | rfl | assumption | omega)) (hF _ _ (by omega) (by omega) (by omega)))) ?_
    refine r_iastore (Y := YX9_keepTried) dX9_keepTried_43 ?_
    refine r_iinc (Y := YX9_keepTried) dX9_keepTried_44 rfl ?_
    refine r_goto (Y := YX9_keepTried) (tgt := 2) dX9_keepTried_47 (by decide) ?_
    refine R2.weak (by repeat first | exact trivial | refine And.intro rfl ?_) (ih (n + 1) _ (by omega) (fun i a b => ?_) (fun i a b => ?_) (fun i a b => ?_) (fun k i h7 h8 h9 => by rw [← hF k i h7 h8 h9]; exact (by (try delta up); (try delta cpy); (try dsimp only); repeat (first | rw [if_pos (by omega)] | rw [if_neg (by omega)]); try (first | rfl | assumption | omega))))
    · by_cases e : i = n
      · subst e; exact (by (try delta up); (try delta cpy); (try dsimp only); repeat (first | rw [if_pos (by omega)] | rw [if_neg (by omega)]); try (first | rfl | assumption | omega))
      · rw [← p1 i a (by omega)]; exact (by (try delta up); (try delta cpy); (try dsimp only); repeat (first | rw [if_pos (by omega)] | rw [if_neg (by omega)]); try (first | rfl | assumption | omega))
    · by_cases e : i = n
      · subst e; exact (by (try delta up); (try delta cpy); (try dsimp only); repeat (first | rw [if_pos (by omega)] | rw [if_neg (by omega)]); try (first | rfl | assumption | omega))
      · rw [← p2 i a (by omega)]; exact (by (try delta up); (try delta cpy); (try dsimp only); repeat (first | rw [if_pos (by omega)] | rw [if_neg (by omega)]); try (first | rfl | assumption | omega))
    · by_cases e : i = n
      · subst e; exact (by (try delta up); (try delta cpy); (try dsimp only); repeat (first | rw [if_pos (by omega)] | rw [if_neg (by omega)]); try (first | rfl | assumption | omega))
      · rw [← p3 i a (by omega)]; exact (by (try delta up); (try delta cpy); (try dsimp only); repeat (first | rw [if_pos (by omega)] | rw [if_neg (by omega)]); try (first | rfl | assumption | omega))
theorem c_layNow {σ : ab_S} {m : Int} {A : AB} (hm : kd_ m 9 37) (hM : MM σ m A) (hW : WA A) : C2 YX9_layNow 0 σ [rf m] (PV fun σ' => MT σ' m A ∧ FM σ σ' m) := by
  refine C2.mono (c_X9_layNow hm) (fun τ v h => ⟨h.1, ?_⟩)
  obtain ⟨_, h1, h2, h3, h4, h5, h6, h7, h8, h9⟩ := h
  have hf : FM σ τ m := fun k i a b => h9 k i (by omega) (by omega) (by omega) (by omega) (by omega) (by omega) (by omega) b
  refine ⟨⟨fun j a b => by rw [h1 j a b]; exact hM.1 j a b, fun j a b => by rw [hf _ _ (by omega) (by omega)]; exact hM.2.1 j a b, fun j a b => by rw [h2 j a b]; exact hM.2.2.1 j a b, fun j a b => by rw [h3 j a b]; exact hM.2.2.2.1 j a b, fun r a b => (hM.2.2.2.2.1 r a b).cp a b (hW.2.2.2.1 r a b).1 h4 h5 h6 h7, by rw [hf _ _ (by omega) (by omega)]; exact hM.2.2.2.2.2.1, by rw [h8]; exact hM.2.2.2.2.2.2⟩, hf⟩
theorem c_keepTried {σ : ab_S} {m : Int} {A : AB} (hm : kd_ m 9 37) (hM : MT σ m A) (hW : WA A) : C2 YX9_keepTried 0 σ [rf m] (PV fun σ' => MM σ' m A ∧ ∀ k i : Int, (k < m + 1 ∨ m + 8 < k) → ¬ (k = m ∧ i = 9) → σ' k i = σ k i) := by
  refine C2.mono (c_X9_keepTried hm) (fun τ v h => ⟨h.1, ?_⟩)
  obtain ⟨_, h1, h2, h3, h4, h5, h6, h7, h8, h9⟩ := h
  refine ⟨⟨fun j a b => by rw [h1 j a b]; exact hM.1 j a b, fun j a b => by rw [h9 _ _ (by omega) (by omega) (by omega) (by omega) (by omega) (by omega) (by omega) (by omega)]; exact hM.2.1 j a b, fun j a b => by rw [h2 j a b]; exact hM.2.2.1 j a b, fun j a b => by rw [h3 j a b]; exact hM.2.2.2.1 j a b, fun r a b => (hM.2.2.2.2.1 r a b).cp a b (hW.2.2.2.1 r a b).1 h4 h5 h6 h7, by rw [h9 _ _ (by omega) (by omega) (by omega) (by omega) (by omega) (by omega) (by omega) (by omega)]; exact hM.2.2.2.2.2.1, by rw [h8]; exact hM.2.2.2.2.2.2⟩, fun k i a b => h9 k i (by omega) (by omega) (by omega) (by omega) (by omega) (by omega) (by omega) b⟩
