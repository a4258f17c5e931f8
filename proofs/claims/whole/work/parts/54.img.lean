/-! the model whole: images kept and brought back -/
theorem at_ {f : Int → Int} {a b x : Int} (h : f a = x) (e : b = a) : f b = x := by rw [e]; exact h
theorem PS.fr {σ τ : ab_S} {m b f k i : Int} {p : Nat} (h : PS σ τ m b f p) (hk : (m + 13 ≤ k ∧ k ≠ m + 25) ∨ k < m ∨ (k = m ∧ 16 ≤ i ∧ i ≠ 35)) : τ k i = σ k i :=
  h.2.2.2 k i (fun q hq => by have h1 := loc_ok q hq; omega) (by omega)
theorem PS.kp {σ τ : ab_S} {m b f i : Int} {p : Nat} (h : PS σ τ m b f p) (hk : i < b ∨ b + 152 ≤ i) : τ (m + 25) i = σ (m + 25) i :=
  h.2.2.2 (m + 25) i (fun q hq => by have h1 := loc_ok q hq; omega) (by omega)
def SNP (v : Nat → Int) (H : WH) : Prop := (v 0 = aWr H.1 ∧ v 1 = aWk H.1 ∧ v 2 = H.2.1.length ∧ v 3 = H.2.2.length) ∧ (∀ j : Nat, j < 6 → v (4 + 8 * j + 0) = aH H.1 j ∧ v (4 + 8 * j + 1) = aS H.1 j ∧ v (4 + 8 * j + 2) = aB H.1 j ∧ v (4 + 8 * j + 3) = aW H.1 j) ∧ (∀ (i : Nat) (q : Int × Int), H.2.1[i]? = some q → v (4 + 8 * i + 4) = q.1 ∧ v (4 + 8 * i + 5) = q.2) ∧ (∀ (i : Nat) (q : Int × Int), H.2.2[i]? = some q → v (4 + 8 * i + 6) = q.1 ∧ v (4 + 8 * i + 7) = q.2) ∧ (∀ r : Nat, r < 4 → v (148 + r) = (aR H.1 r).length ∧ ∀ (i : Nat) (l : Lk), (aR H.1 r)[i]? = some l → v (52 + 3 * (8 * r + i) + 0) = l.1 ∧ v (52 + 3 * (8 * r + i) + 1) = l.2.1 ∧ v (52 + 3 * (8 * r + i) + 2) = l.2.2)
theorem SNP.eq {v w : Nat → Int} {H : WH} (h : SNP v H) (hX : WX H) (he : ∀ q : Nat, q < 152 → w q = v q) : SNP w H := by
  obtain ⟨⟨a1, a2, a3, a4⟩, b, c, d, e⟩ := h
  have l1 := hX.1.2.1
  have l2 := hX.1.2.2
  refine ⟨⟨by rw [he _ (by omega)]; exact a1, by rw [he _ (by omega)]; exact a2, by rw [he _ (by omega)]; exact a3, by rw [he _ (by omega)]; exact a4⟩, fun j hj => ?_, fun i q hq => ?_, fun i q hq => ?_, fun r hr => ⟨?_, fun i l hl => ?_⟩⟩
  · rw [he _ (by omega), he _ (by omega), he _ (by omega), he _ (by omega)]; exact b j hj
  · have hi := (List.getElem?_eq_some_iff.mp hq).1
    rw [he _ (by omega), he _ (by omega)]; exact c i q hq
  · have hi := (List.getElem?_eq_some_iff.mp hq).1
    rw [he _ (by omega), he _ (by omega)]; exact d i q hq
  · rw [he _ (by omega)]; exact (e r hr).1
  · have hi := (List.getElem?_eq_some_iff.mp hl).1
    have h8 := (hX.1.1.2.2.2.1 r (by omega) (by omega)).1
    rw [he _ (by omega), he _ (by omega), he _ (by omega)]; exact (e r hr).2 i l hl
theorem IM.snp {σ : ab_S} {m n : Int} {H : WH} (h : IM σ m n H) : SNP (fun q => σ (m + 25) (180 * n + (q : Nat))) H := by
  obtain ⟨⟨a1, a2, a3, a4⟩, b, c, d, e⟩ := h
  refine ⟨⟨at_ a1 (by omega), at_ a2 (by omega), at_ a3 (by omega), at_ a4 (by omega)⟩, fun j hj => ?_, fun i q hq => ?_, fun i q hq => ?_, fun r hr => ⟨?_, fun i l hl => ?_⟩⟩
  · have h1 := b j (by omega) (by omega)
    exact ⟨at_ h1.1 (by omega), at_ h1.2.1 (by omega), at_ h1.2.2.1 (by omega), at_ h1.2.2.2 (by omega)⟩
  · have h1 := c i q hq
    exact ⟨at_ h1.1 (by omega), at_ h1.2 (by omega)⟩
  · have h1 := d i q hq
    exact ⟨at_ h1.1 (by omega), at_ h1.2 (by omega)⟩
  · exact at_ (e r (by omega) (by omega)).1 (by omega)
  · have h1 := (e r (by omega) (by omega)).2 i l hl
    exact ⟨at_ h1.1 (by omega), at_ h1.2.1 (by omega), at_ h1.2.2 (by omega)⟩
theorem SNP.im {σ : ab_S} {m n : Int} {H : WH} (h : SNP (fun q => σ (m + 25) (180 * n + (q : Nat))) H) : IM σ m n H := by
  obtain ⟨⟨a1, a2, a3, a4⟩, b, c, d, e⟩ := h
  refine ⟨⟨at_ a1 (by omega), at_ a2 (by omega), at_ a3 (by omega), at_ a4 (by omega)⟩, fun j hj1 hj2 => ?_, fun i q hq => ?_, fun i q hq => ?_, fun r hr1 hr2 => ?_⟩
  · obtain ⟨jn, rfl⟩ : ∃ jn : Nat, j = jn := ⟨j.toNat, by omega⟩
    have h1 := b jn (by omega)
    exact ⟨at_ h1.1 (by omega), at_ h1.2.1 (by omega), at_ h1.2.2.1 (by omega), at_ h1.2.2.2 (by omega)⟩
  · have h1 := c i q hq
    exact ⟨at_ h1.1 (by omega), at_ h1.2 (by omega)⟩
  · have h1 := d i q hq
    exact ⟨at_ h1.1 (by omega), at_ h1.2 (by omega)⟩
  · obtain ⟨rn, rfl⟩ : ∃ rn : Nat, r = rn := ⟨r.toNat, by omega⟩
    refine ⟨at_ (e rn (by omega)).1 (by omega), fun i l hl => ?_⟩
    have h1 := (e rn (by omega)).2 i l hl
    exact ⟨at_ h1.1 (by omega), at_ h1.2.1 (by omega), at_ h1.2.2 (by omega)⟩
theorem lv_s0 (σ : ab_S) (m : Int) : lv_ σ m 0 = σ m 8 ∧ lv_ σ m 1 = σ m 9 ∧ lv_ σ m 2 = σ m 12 ∧ lv_ σ m 3 = σ m 15 := by
  have e : m + ((0 : Nat) : Int) = m := by omega
  refine ⟨?_, ?_, ?_, ?_⟩
  · show σ (m + ((0 : Nat) : Int)) 8 = _; rw [e]
  · show σ (m + ((0 : Nat) : Int)) 9 = _; rw [e]
  · show σ (m + ((0 : Nat) : Int)) 12 = _; rw [e]
  · show σ (m + ((0 : Nat) : Int)) 15 = _; rw [e]
theorem lv_a0 (σ : ab_S) (m : Int) {j : Nat} (hj : j < 6) : lv_ σ m (4 + 8 * j + 0) = σ (m + 1) j := by
  unfold lv_
  rw [loc_a hj (by omega)]
  rfl
theorem lv_a1 (σ : ab_S) (m : Int) {j : Nat} (hj : j < 6) : lv_ σ m (4 + 8 * j + 1) = σ (m + 2) j := by
  unfold lv_
  rw [loc_a hj (by omega)]
  rfl
theorem lv_a2 (σ : ab_S) (m : Int) {j : Nat} (hj : j < 6) : lv_ σ m (4 + 8 * j + 2) = σ (m + 3) j := by
  unfold lv_
  rw [loc_a hj (by omega)]
  rfl
theorem lv_a3 (σ : ab_S) (m : Int) {j : Nat} (hj : j < 6) : lv_ σ m (4 + 8 * j + 3) = σ (m + 4) j := by
  unfold lv_
  rw [loc_a hj (by omega)]
  rfl
theorem lv_a4 (σ : ab_S) (m : Int) {j : Nat} (hj : j < 6) : lv_ σ m (4 + 8 * j + 4) = σ (m + 9) j := by
  unfold lv_
  rw [loc_a hj (by omega)]
  rfl
theorem lv_a5 (σ : ab_S) (m : Int) {j : Nat} (hj : j < 6) : lv_ σ m (4 + 8 * j + 5) = σ (m + 10) j := by
  unfold lv_
  rw [loc_a hj (by omega)]
  rfl
theorem lv_a6 (σ : ab_S) (m : Int) {j : Nat} (hj : j < 6) : lv_ σ m (4 + 8 * j + 6) = σ (m + 11) j := by
  unfold lv_
  rw [loc_a hj (by omega)]
  rfl
theorem lv_a7 (σ : ab_S) (m : Int) {j : Nat} (hj : j < 6) : lv_ σ m (4 + 8 * j + 7) = σ (m + 12) j := by
  unfold lv_
  rw [loc_a hj (by omega)]
  rfl
theorem lv_b0 (σ : ab_S) (m : Int) {k : Nat} (hk : k < 32) : lv_ σ m (52 + 3 * k + 0) = σ (m + 5) k := by
  unfold lv_
  rw [loc_b hk (by omega)]
  rfl
theorem lv_b1 (σ : ab_S) (m : Int) {k : Nat} (hk : k < 32) : lv_ σ m (52 + 3 * k + 1) = σ (m + 6) k := by
  unfold lv_
  rw [loc_b hk (by omega)]
  rfl
theorem lv_b2 (σ : ab_S) (m : Int) {k : Nat} (hk : k < 32) : lv_ σ m (52 + 3 * k + 2) = σ (m + 7) k := by
  unfold lv_
  rw [loc_b hk (by omega)]
  rfl
theorem lv_c (σ : ab_S) (m : Int) (r : Nat) : lv_ σ m (148 + r) = σ (m + 8) r := by
  unfold lv_
  rw [loc_c]
  rfl
theorem SNP.ofM {σ : ab_S} {m : Int} {H : WH} (h1 : MM σ m H.1) (h2 : RLq σ m 9 10 12 H.2.1) (h3 : RLq σ m 11 12 15 H.2.2) (hX : WX H) : SNP (lv_ σ m) H := by
  obtain ⟨s0, s1, s2, s3⟩ := lv_s0 σ m
  have l1 := hX.1.2.1
  have l2 := hX.1.2.2
  refine ⟨⟨by rw [s0]; exact h1.2.2.2.2.2.1, by rw [s1]; exact h1.2.2.2.2.2.2, by rw [s2]; exact h2.1, by rw [s3]; exact h3.1⟩, fun j hj => ?_, fun i q hq => ?_, fun i q hq => ?_, fun r hr => ⟨?_, fun i l hl => ?_⟩⟩
  · rw [lv_a0 σ m hj, lv_a1 σ m hj, lv_a2 σ m hj, lv_a3 σ m hj]
    exact ⟨h1.1 j (by omega) (by omega), h1.2.1 j (by omega) (by omega), h1.2.2.1 j (by omega) (by omega), h1.2.2.2.1 j (by omega) (by omega)⟩
  · have hi := (List.getElem?_eq_some_iff.mp hq).1
    rw [lv_a4 σ m (by omega), lv_a5 σ m (by omega)]
    exact h2.2 i q hq
  · have hi := (List.getElem?_eq_some_iff.mp hq).1
    rw [lv_a6 σ m (by omega), lv_a7 σ m (by omega)]
    exact h3.2 i q hq
  · rw [lv_c]
    exact (h1.2.2.2.2.1 r (by omega) (by omega)).1
  · have hi := (List.getElem?_eq_some_iff.mp hl).1
    have h8 := (hX.1.1.2.2.2.1 r (by omega) (by omega)).1
    have h9 := (h1.2.2.2.2.1 r (by omega) (by omega)).2 i l hl
    rw [lv_b0 σ m (by omega), lv_b1 σ m (by omega), lv_b2 σ m (by omega)]
    exact ⟨at_ h9.1 (by omega), at_ h9.2.1 (by omega), at_ h9.2.2 (by omega)⟩
theorem SNP.toM {σ : ab_S} {m : Int} {H : WH} (h : SNP (lv_ σ m) H) (hX : WX H) : MM σ m H.1 ∧ RLq σ m 9 10 12 H.2.1 ∧ RLq σ m 11 12 15 H.2.2 := by
  obtain ⟨⟨a1, a2, a3, a4⟩, b, c, d, e⟩ := h
  obtain ⟨s0, s1, s2, s3⟩ := lv_s0 σ m
  have l1 := hX.1.2.1
  have l2 := hX.1.2.2
  have hj4 : ∀ j : Int, 0 ≤ j → j < 6 → σ (m + 1) j = aH H.1 j ∧ σ (m + 2) j = aS H.1 j ∧ σ (m + 3) j = aB H.1 j ∧ σ (m + 4) j = aW H.1 j := fun j hj1 hj2 => by
    obtain ⟨jn, rfl⟩ : ∃ jn : Nat, j = jn := ⟨j.toNat, by omega⟩
    have h1 := b jn (by omega)
    rw [lv_a0 σ m (by omega), lv_a1 σ m (by omega), lv_a2 σ m (by omega), lv_a3 σ m (by omega)] at h1
    exact h1
  refine ⟨⟨fun j x y => (hj4 j x y).1, fun j x y => (hj4 j x y).2.1, fun j x y => (hj4 j x y).2.2.1, fun j x y => (hj4 j x y).2.2.2, fun r hr1 hr2 => ?_, by rw [← s0]; exact a1, by rw [← s1]; exact a2⟩, ⟨by rw [← s2]; exact a3, fun i q hq => ?_⟩, ⟨by rw [← s3]; exact a4, fun i q hq => ?_⟩⟩
  · obtain ⟨rn, rfl⟩ : ∃ rn : Nat, r = rn := ⟨r.toNat, by omega⟩
    have h1 := e rn (by omega)
    rw [lv_c] at h1
    refine ⟨h1.1, fun i l hl => ?_⟩
    have hi := (List.getElem?_eq_some_iff.mp hl).1
    have h8 := (hX.1.1.2.2.2.1 rn (by omega) (by omega)).1
    have h9 := h1.2 i l hl
    rw [lv_b0 σ m (by omega), lv_b1 σ m (by omega), lv_b2 σ m (by omega)] at h9
    exact ⟨at_ h9.1 (by omega), at_ h9.2.1 (by omega), at_ h9.2.2 (by omega)⟩
  · have hi := (List.getElem?_eq_some_iff.mp hq).1
    have h9 := c i q hq
    rw [lv_a4 σ m (by omega), lv_a5 σ m (by omega)] at h9
    exact h9
  · have hi := (List.getElem?_eq_some_iff.mp hq).1
    have h9 := d i q hq
    rw [lv_a6 σ m (by omega), lv_a7 σ m (by omega)] at h9
    exact h9
theorem IM.kp {σ τ : ab_S} {m n : Int} {H : WH} (h : IM σ m n H) (hX : WX H) (hf : ∀ i : Int, 180 * n ≤ i → i < 180 * n + 152 → τ (m + 25) i = σ (m + 25) i) : IM τ m n H :=
  SNP.im (h.snp.eq hX (fun q hq => hf _ (by omega) (by omega)))
set_option maxRecDepth 20000 in
theorem c_X9_image {σ : ab_S} {m : Int} {G : GS} (hm : kd_ m 9 37) (hM : HM σ m G) (hG : OKG G) {n : Int} (hn1 : -2147483648 ≤ n) (hn2 : n ≤ 2147483647) : C2 YX9_image 2 σ [rf m, iv n] (PI fun σ' z => z = (imageF G n).1 ∧ HM σ' m (imageF G n).2 ∧ FY σ σ' m) := by
  obtain ⟨k1, k2, k3, k4, k5, k6, k7, k8, k9, k10, k11, k12, k13, k14, k15, k16, k17, k18, k19, k20, k21, k22, k23, k24, k25, k26⟩ := kd_model hm
  have hA := hM.1
  have hW := hG.1.1.1
  have hWL := hG.1.1.2
  refine C2.of (by decide +kernel) (Nat.le_of_ble_eq_true rfl) ?_
  refine r_iload_n (Y := YX9_image) dX9_image_0 rfl ?_
  refine r_i2l (Y := YX9_image) dX9_image_1 ?_
  refine r_lconst (Y := YX9_image) (v := 0) dX9_image_2 rfl ?_
  refine r_lconst (Y := YX9_image) (v := 1) dX9_image_3 rfl ?_
  refine r_iS3I (Y := YX9_image) ms_X9_95 dX9_image_4 (c_in (by omega) (by omega) (by omega) (by omega) (by omega) (by omega)) (fun σ4 z4 h4 => ?_)
  obtain ⟨rfl, h4⟩ := h4
  refine r_if_ne (Y := YX9_image) (tgt := 13) dX9_image_7 (by decide) (fun c7 => ?_) (fun c7 => ?_) 
  · refine r_aload_n (Y := YX9_image) dX9_image_13 rfl ?_
    refine r_sipush (Y := YX9_image) dX9_image_14 ?_
    refine r_iload_n (Y := YX9_image) dX9_image_17 rfl ?_
    refine r_imul (Y := YX9_image) dX9_image_18 ?_
    refine r_putI (Y := YX9_image) (jz := 35) fp_X9_266 dX9_image_19 ?_
    refine r_aload_n (Y := YX9_image) dX9_image_22 rfl ?_
    refine r_iconst (Y := YX9_image) dX9_image_23 ?_
    refine r_putZ (Y := YX9_image) (jz := 36) fp_X9_262 dX9_image_24 (by decide) ?_
    have hM1 : HM (up (up σ4 m 35 (180 * n)) m 36 1) m G := hM.kept (fun k i b => by (try delta up); (try delta cpy); (try dsimp only); repeat (first | rw [if_pos (by omega)] | rw [if_neg (by omega)]); try (first | rfl | assumption | omega))
    refine r_aload_n (Y := YX9_image) dX9_image_27 rfl ?_
    refine r_iV0V (Y := YX9_image) mv_X9_272 dX9_image_28 (c_X9_passAll hm (b := 180 * n) (f := 1) (by (try delta up); (try delta cpy); (try dsimp only); repeat (first | rw [if_pos (by omega)] | rw [if_neg (by omega)]); try (first | rfl | assumption | omega)) (by (try delta up); (try delta cpy); (try dsimp only); repeat (first | rw [if_pos (by omega)] | rw [if_neg (by omega)]); try (first | rfl | assumption | omega)) (Or.inr rfl) (by omega) (by omega)) (by assumption) (fun σ28 h28 => ?_)
    have hv : ∀ q : Nat, q < 152 → lv_ σ28 m q = lv_ (up (up σ4 m 35 (180 * n)) m 36 1) m q ∧ σ28 (m + 25) (180 * n + q) = lv_ (up (up σ4 m 35 (180 * n)) m 36 1) m q := fun q hq => (h28.1 q hq).1 hq
    have s1 := SNP.ofM hM1.1 hM1.2.1 hM1.2.2.1 hG.1
    have s2 := (s1.eq hG.1 (fun q hq => (hv q hq).1)).toM hG.1
    have s3 : IM σ28 m n G.1 := SNP.im (s1.eq hG.1 (fun q hq => (hv q hq).2))
    refine r_aload_n (Y := YX9_image) dX9_image_31 rfl ?_
    refine r_getR (Y := YX9_image) (δz := 26) fl_X9_85 dX9_image_32 rfl rfl ?_
    refine r_iload_n (Y := YX9_image) dX9_image_35 rfl ?_
    refine r_iconst (Y := YX9_image) dX9_image_36 ?_
    refine r_bastore (Y := YX9_image) dX9_image_37 (by decide) ?_
    refine r_iconst (Y := YX9_image) dX9_image_38 ?_
    refine r_ireturn (Y := YX9_image) dX9_image_39 ?_
    unfold imageF
    (repeat (first | rw [if_pos (by omega)] | rw [if_neg (by omega)]))
    refine ⟨rfl, ⟨s2.1.kept (fun k i b => by (try delta up); (try delta cpy); (try dsimp only); repeat (first | rw [if_pos (by omega)] | rw [if_neg (by omega)]); try (first | rfl | assumption | omega)), s2.2.1.kept (fun k i b => by (try delta up); (try delta cpy); (try dsimp only); repeat (first | rw [if_pos (by omega)] | rw [if_neg (by omega)]); try (first | rfl | assumption | omega)), s2.2.2.kept (fun k i b => by (try delta up); (try delta cpy); (try dsimp only); repeat (first | rw [if_pos (by omega)] | rw [if_neg (by omega)]); try (first | rfl | assumption | omega)), hM1.2.2.2.1.kept (fun k i b => ?_), fun i i1 i2 => ?_⟩, fun k i b => ?_⟩
    · rw [← h28.fr (k := k) (i := i) (by omega)]; exact (by (try delta up); (try delta cpy); (try dsimp only); repeat (first | rw [if_pos (by omega)] | rw [if_neg (by omega)]); try (first | rfl | assumption | omega))
    · by_cases e : i = n
      · subst e
        exact Or.inr ⟨G.1, fu_same _ _ _, up_same _ _ _ _, s3.kept (fun j => by (try delta up); (try delta cpy); (try dsimp only); repeat (first | rw [if_pos (by omega)] | rw [if_neg (by omega)]); try (first | rfl | assumption | omega))⟩
      · have e3 : up σ28 (m + 26) n 1 (m + 26) i = (up (up σ4 m 35 (180 * n)) m 36 1) (m + 26) i := by rw [← h28.fr (k := m + 26) (i := i) (by omega)]; exact (by (try delta up); (try delta cpy); (try dsimp only); repeat (first | rw [if_pos (by omega)] | rw [if_neg (by omega)]); try (first | rfl | assumption | omega))
        rw [e3]
        rcases hM1.2.2.2.2 i i1 i2 with q | ⟨HH, q1, q2, q3⟩
        · exact Or.inl ⟨(fu_ne e).trans q.1, q.2⟩
        · refine Or.inr ⟨HH, (fu_ne e).trans q1, q2, q3.kp (hG.2.2 i HH q1) (fun j j1 j2 => ?_)⟩
          rw [← h28.kp (i := j) (by omega)]; exact (by (try delta up); (try delta cpy); (try dsimp only); repeat (first | rw [if_pos (by omega)] | rw [if_neg (by omega)]); try (first | rfl | assumption | omega))
    · have e4 := h28.fr (k := k) (i := i) (by omega)
      rw [show up σ28 (m + 26) n 1 k i = σ28 k i by exact (by (try delta up); (try delta cpy); (try dsimp only); repeat (first | rw [if_pos (by omega)] | rw [if_neg (by omega)]); try (first | rfl | assumption | omega)), e4]
      exact (by (try delta up); (try delta cpy); (try dsimp only); repeat (first | rw [if_pos (by omega)] | rw [if_neg (by omega)]); try (first | rfl | assumption | omega))
  · refine r_bipush (Y := YX9_image) dX9_image_10 ?_
    refine r_ireturn (Y := YX9_image) dX9_image_12 ?_
    first
      | (exfalso; omega)
      | (unfold imageF; (repeat (first | rw [if_pos (by omega)] | rw [if_neg (by omega)])); exact ⟨rfl, hM, fun _ _ _ => rfl⟩)
set_option maxRecDepth 20000 in
theorem c_X9_restore {σ : ab_S} {m : Int} {G : GS} (hm : kd_ m 9 37) (hM : HM σ m G) (hG : OKG G) {n : Int} (hn1 : -2147483648 ≤ n) (hn2 : n ≤ 2147483647) : C2 YX9_restore 2 σ [rf m, iv n] (PI fun σ' z => z = (restoreF G n).1 ∧ HM σ' m (restoreF G n).2 ∧ FY σ σ' m) := by
  obtain ⟨k1, k2, k3, k4, k5, k6, k7, k8, k9, k10, k11, k12, k13, k14, k15, k16, k17, k18, k19, k20, k21, k22, k23, k24, k25, k26⟩ := kd_model hm
  have hA := hM.1
  have hW := hG.1.1.1
  have hWL := hG.1.1.2
  refine C2.of (by decide +kernel) (Nat.le_of_ble_eq_true rfl) ?_
  refine r_iload_n (Y := YX9_restore) dX9_restore_0 rfl ?_
  refine r_i2l (Y := YX9_restore) dX9_restore_1 ?_
  refine r_lconst (Y := YX9_restore) (v := 0) dX9_restore_2 rfl ?_
  refine r_lconst (Y := YX9_restore) (v := 1) dX9_restore_3 rfl ?_
  refine r_iS3I (Y := YX9_restore) ms_X9_95 dX9_restore_4 (c_in (by omega) (by omega) (by omega) (by omega) (by omega) (by omega)) (fun σ4 z4 h4 => ?_)
  obtain ⟨rfl, h4⟩ := h4
  refine r_if_ne (Y := YX9_restore) (tgt := 13) dX9_restore_7 (by decide) (fun c7 => ?_) (fun c7 => ?_) 
  · rcases hM.2.2.2.2 n (by omega) (by omega) with q | ⟨HH, q1, q2, q3⟩
    · refine r_aload_n (Y := YX9_restore) dX9_restore_13 rfl ?_
      refine r_getR (Y := YX9_restore) (δz := 26) fl_X9_85 dX9_restore_14 rfl rfl ?_
      refine r_iload_n (Y := YX9_restore) dX9_restore_17 rfl ?_
      refine r_baV (Y := YX9_restore) (v := 0) dX9_restore_18 (q.2) ?_
      refine r_if_ne (Y := YX9_restore) (tgt := 25) dX9_restore_19 (by decide) (fun c19 => absurd c19 (by omega)) (fun c19 => ?_) 
      refine r_bipush (Y := YX9_restore) dX9_restore_22 ?_
      refine r_ireturn (Y := YX9_restore) dX9_restore_24 ?_
      unfold restoreF
      (repeat (first | rw [if_pos (by omega)] | rw [if_neg (by omega)]))
      rw [q.1]
      exact ⟨rfl, hM, fun _ _ _ => rfl⟩
    · refine r_aload_n (Y := YX9_restore) dX9_restore_13 rfl ?_
      refine r_getR (Y := YX9_restore) (δz := 26) fl_X9_85 dX9_restore_14 rfl rfl ?_
      refine r_iload_n (Y := YX9_restore) dX9_restore_17 rfl ?_
      refine r_baV (Y := YX9_restore) (v := 1) dX9_restore_18 (q2) ?_
      refine r_if_ne (Y := YX9_restore) (tgt := 25) dX9_restore_19 (by decide) (fun c19 => ?_) (fun c19 => absurd c19 (by omega)) 
      refine r_aload_n (Y := YX9_restore) dX9_restore_25 rfl ?_
      refine r_sipush (Y := YX9_restore) dX9_restore_26 ?_
      refine r_iload_n (Y := YX9_restore) dX9_restore_29 rfl ?_
      refine r_imul (Y := YX9_restore) dX9_restore_30 ?_
      refine r_putI (Y := YX9_restore) (jz := 35) fp_X9_266 dX9_restore_31 ?_
      refine r_aload_n (Y := YX9_restore) dX9_restore_34 rfl ?_
      refine r_iconst (Y := YX9_restore) dX9_restore_35 ?_
      refine r_putZ (Y := YX9_restore) (jz := 36) fp_X9_262 dX9_restore_36 (by decide) ?_
      have hM1 : HM (up (up σ4 m 35 (180 * n)) m 36 0) m G := hM.kept (fun k i b => by (try delta up); (try delta cpy); (try dsimp only); repeat (first | rw [if_pos (by omega)] | rw [if_neg (by omega)]); try (first | rfl | assumption | omega))
      have q4 : IM (up (up σ4 m 35 (180 * n)) m 36 0) m n HH := q3.kept (fun j => by (try delta up); (try delta cpy); (try dsimp only); repeat (first | rw [if_pos (by omega)] | rw [if_neg (by omega)]); try (first | rfl | assumption | omega))
      have hXH := hG.2.2 n HH q1
      refine r_aload_n (Y := YX9_restore) dX9_restore_39 rfl ?_
      refine r_iV0V (Y := YX9_restore) mv_X9_272 dX9_restore_40 (c_X9_passAll hm (b := 180 * n) (f := 0) (by (try delta up); (try delta cpy); (try dsimp only); repeat (first | rw [if_pos (by omega)] | rw [if_neg (by omega)]); try (first | rfl | assumption | omega)) (by (try delta up); (try delta cpy); (try dsimp only); repeat (first | rw [if_pos (by omega)] | rw [if_neg (by omega)]); try (first | rfl | assumption | omega)) (Or.inl rfl) (by omega) (by omega)) (by assumption) (fun σ40 h40 => ?_)
      have hv : ∀ q : Nat, q < 152 → lv_ σ40 m q = (up (up σ4 m 35 (180 * n)) m 36 0) (m + 25) (180 * n + q) ∧ σ40 (m + 25) (180 * n + q) = (up (up σ4 m 35 (180 * n)) m 36 0) (m + 25) (180 * n + q) := fun q hq => (h40.1 q hq).1 hq
      have s2 := (q4.snp.eq hXH (fun q hq => (hv q hq).1)).toM hXH
      refine r_iconst (Y := YX9_restore) dX9_restore_43 ?_
      refine r_ireturn (Y := YX9_restore) dX9_restore_44 ?_
      unfold restoreF
      (repeat (first | rw [if_pos (by omega)] | rw [if_neg (by omega)]))
      rw [q1]
      refine ⟨rfl, ⟨s2.1, s2.2.1, s2.2.2, hM1.2.2.2.1.kept (fun k i b => h40.fr (by omega)), hM1.2.2.2.2.kept (fun k i b => ?_)⟩, fun k i b => ?_⟩
      · rcases b with b | b
        · subst b
          by_cases e : i < 180 * n ∨ 180 * n + 152 ≤ i
          · exact h40.kp e
          · have h9 := (hv (i - 180 * n).toNat (by omega)).2
            rw [show 180 * n + (((i - 180 * n).toNat : Nat) : Int) = i by omega] at h9
            exact h9
        · exact h40.fr (by omega)
      · rw [h40.fr (k := k) (i := i) (by omega)]; exact (by (try delta up); (try delta cpy); (try dsimp only); repeat (first | rw [if_pos (by omega)] | rw [if_neg (by omega)]); try (first | rfl | assumption | omega))
  · refine r_bipush (Y := YX9_restore) dX9_restore_10 ?_
    refine r_ireturn (Y := YX9_restore) dX9_restore_12 ?_
    first
      | (exfalso; omega)
      | (unfold restoreF; (repeat (first | rw [if_pos (by omega)] | rw [if_neg (by omega)])); exact ⟨rfl, hM, fun _ _ _ => rfl⟩)
