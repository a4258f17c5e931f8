/-! the text on the pad, done on an abbey: (parts, why, the abbey then) -/
def folS : List Int → Int → Int → Int → Int → AB → Int × Int × AB
  | [], _, _, _, p, A => (p, 0, A)
  | s :: r, e, m, op, p, A =>
    if e = 0 then (if s = 46 then folS r 0 0 0 (p + 1) (weekA A) else folS r 1 s 0 p A)
    else if e = 1 then (if s = 43 ∨ s = 45 then folS r 2 m s p A else if weaveZ A (m - 65) (s - 48) = 0 then folS r 0 0 0 (p + 1) (weaveR A (m - 65) (s - 48)) else (p, weaveZ A (m - 65) (s - 48), A))
    else if op = 43 then (if sinZ A (m - 65) (s - 48) = 0 then folS r 0 0 0 (p + 1) (sinR A (m - 65) (s - 48)) else (p, sinZ A (m - 65) (s - 48), A))
    else (if prayZ A (m - 65) (s - 48) = 0 then folS r 0 0 0 (p + 1) (prayR A (m - 65) (s - 48)) else (p, prayZ A (m - 65) (s - 48), A))
def follow (xs : List Int) (A : AB) : Int × Int × AB := folS xs 0 0 0 0 A
theorem sinZ_bd (A : AB) (m k : Int) : 0 ≤ sinZ A m k ∧ sinZ A m k ≤ 5 := by unfold sinZ; split <;> omega
theorem prayZ_bd (A : AB) (m k : Int) : 0 ≤ prayZ A m k ∧ prayZ A m k ≤ 5 := by
  unfold prayZ
  repeat' split
  all_goals omega
theorem weaveZ_bd (A : AB) (m r : Int) : 0 ≤ weaveZ A m r ∧ weaveZ A m r ≤ 5 := by
  unfold weaveZ
  repeat' split
  all_goals omega
theorem sinR_no {A : AB} {m k : Int} (h : ¬ sinZ A m k = 0) : sinR A m k = A := by
  unfold sinZ at h
  unfold sinR
  split
  · rfl
  · rename_i h2; rw [if_neg h2] at h; omega
theorem prayR_no {A : AB} {m k : Int} (h : ¬ prayZ A m k = 0) : prayR A m k = A := by
  unfold prayZ at h
  unfold prayR
  split
  · rfl
  · rename_i h2
    rw [if_neg h2] at h
    split
    · rfl
    · rename_i h3; rw [if_neg h3] at h; omega
theorem weaveR_no {A : AB} {m k : Int} (h : ¬ weaveZ A m k = 0) : weaveR A m k = A := by
  unfold weaveZ at h
  unfold weaveR
  split
  · rfl
  · rename_i h2
    rw [if_neg h2] at h
    split
    · rfl
    · rename_i h3; rw [if_neg h3] at h; omega
set_option maxRecDepth 20000 in
theorem c_X2_doPart_week {σ : ab_S} {p a : Int} {xs : List Int} {A : AB} (hp : kd_ p 2 2) (ha : kd_ a 0 8) (hR : RD σ p xs) (hL : WD xs) (hA : RA σ a A) (hW : WA A) {i : Nat} (hi : i ≤ 60) : C2 YX2_doPart 4 σ [rf p, rf a, iv i, iv i] (PI fun σ' z => z = 0 ∧ RA σ' a (weekA A) ∧ FA σ σ' a) := by
  have k1 := kd_pad hp
  have hL1 := hL.1
  refine C2.of (by decide +kernel) (Nat.le_of_ble_eq_true rfl) ?_
  refine r_iload_n (Y := YX2_doPart) dX2_doPart_0 rfl ?_
  refine r_iload_n (Y := YX2_doPart) dX2_doPart_1 rfl ?_
  refine r_icmp_ne (Y := YX2_doPart) (tgt := 11) dX2_doPart_2 (by decide) (fun c2 => absurd c2 (by omega)) (fun c2 => ?_) 
  refine r_aload_n (Y := YX2_doPart) dX2_doPart_5 rfl ?_
  refine r_iV0V (Y := YX2_doPart) mv_X2_31 dX2_doPart_6 (c_X0_passWeek ha hA hW) (by assumption) (fun σ6 h6 => ?_)
  refine r_iconst (Y := YX2_doPart) dX2_doPart_9 ?_
  refine r_ireturn (Y := YX2_doPart) dX2_doPart_10 ?_
  exact ⟨rfl, h6.1, h6.2⟩
set_option maxRecDepth 20000 in
theorem c_X2_doPart_sin {σ : ab_S} {p a : Int} {xs : List Int} {A : AB} (hp : kd_ p 2 2) (ha : kd_ a 0 8) (hR : RD σ p xs) (hL : WD xs) (hA : RA σ a A) (hW : WA A) {i : Nat} {m c op : Int} (hm : xs[i]? = some m) (hop : xs[i + 1]? = some op) (hc : xs[i + 2]? = some c) (hm1 : 65 ≤ m) (hm2 : m ≤ 70) (ho : op = 43) (hc1 : 49 ≤ c) (hc2 : c ≤ 57) : C2 YX2_doPart 4 σ [rf p, rf a, iv i, iv ((i + 2 : Nat) : Int)] (PI fun σ' z => z = sinZ A (m - 65) (c - 48) ∧ RA σ' a (sinR A (m - 65) (c - 48)) ∧ FA σ σ' a) := by
  have k1 := kd_pad hp
  have hL1 := hL.1
  have hi : i + 2 < xs.length := (List.getElem?_eq_some_iff.mp hc).1
  have hi1 : i + 1 < xs.length := (List.getElem?_eq_some_iff.mp hop).1
  have f1 := hR.2 i m hm
  have f2 := hR.2 (i + 1) op hop
  have f3 := hR.2 (i + 2) c hc
  refine C2.of (by decide +kernel) (Nat.le_of_ble_eq_true rfl) ?_
  refine r_iload_n (Y := YX2_doPart) dX2_doPart_0 rfl ?_
  refine r_iload_n (Y := YX2_doPart) dX2_doPart_1 rfl ?_
  refine r_icmp_ne (Y := YX2_doPart) (tgt := 11) dX2_doPart_2 (by decide) (fun c2 => ?_) (fun c2 => absurd c2 (by omega)) 
  refine r_aload_n (Y := YX2_doPart) dX2_doPart_11 rfl ?_
  refine r_getR (Y := YX2_doPart) (δz := 1) fl_X2_9 dX2_doPart_12 rfl rfl ?_
  refine r_iload_n (Y := YX2_doPart) dX2_doPart_15 rfl ?_
  refine r_iaV (Y := YX2_doPart) (v := m) dX2_doPart_16 (f1) ?_
  refine r_bipush (Y := YX2_doPart) dX2_doPart_17 ?_
  refine r_isub (Y := YX2_doPart) dX2_doPart_19 ?_
  refine r_istore (Y := YX2_doPart) dX2_doPart_20 ?_
  refine r_aload_n (Y := YX2_doPart) dX2_doPart_22 rfl ?_
  refine r_getR (Y := YX2_doPart) (δz := 1) fl_X2_9 dX2_doPart_23 rfl rfl ?_
  refine r_iload_n (Y := YX2_doPart) dX2_doPart_26 rfl ?_
  refine r_iaV (Y := YX2_doPart) (v := c) dX2_doPart_27 (f3) ?_
  refine r_bipush (Y := YX2_doPart) dX2_doPart_28 ?_
  refine r_isub (Y := YX2_doPart) dX2_doPart_30 ?_
  refine r_istore (Y := YX2_doPart) dX2_doPart_31 ?_
  refine r_aload_n (Y := YX2_doPart) dX2_doPart_33 rfl ?_
  refine r_getR (Y := YX2_doPart) (δz := 1) fl_X2_9 dX2_doPart_34 rfl rfl ?_
  refine r_iload_n (Y := YX2_doPart) dX2_doPart_37 rfl ?_
  refine r_iconst (Y := YX2_doPart) dX2_doPart_38 ?_
  refine r_iadd (Y := YX2_doPart) dX2_doPart_39 ?_
  refine r_iaV (Y := YX2_doPart) (v := op) dX2_doPart_40 (f2) ?_
  subst ho
  refine r_lookup (Y := YX2_doPart) (off := 27) (tgt := 68) dX2_doPart_41 (by decide) (by decide) (by decide) ?_
  refine r_aload_n (Y := YX2_doPart) dX2_doPart_68 rfl ?_
  refine r_iload (Y := YX2_doPart) dX2_doPart_69 rfl ?_
  refine r_iload (Y := YX2_doPart) dX2_doPart_71 rfl ?_
  refine r_iV2I (Y := YX2_doPart) mv_X2_36 dX2_doPart_73 (c_X0_sin ha hA hW (by omega) (by omega) (by omega) (by omega)) (by assumption) (fun σ73 z73 h73 => ?_)
  refine r_ireturn (Y := YX2_doPart) dX2_doPart_76 ?_
  exact h73
set_option maxRecDepth 20000 in
theorem c_X2_doPart_pray {σ : ab_S} {p a : Int} {xs : List Int} {A : AB} (hp : kd_ p 2 2) (ha : kd_ a 0 8) (hR : RD σ p xs) (hL : WD xs) (hA : RA σ a A) (hW : WA A) {i : Nat} {m c op : Int} (hm : xs[i]? = some m) (hop : xs[i + 1]? = some op) (hc : xs[i + 2]? = some c) (hm1 : 65 ≤ m) (hm2 : m ≤ 70) (ho : op = 45) (hc1 : 49 ≤ c) (hc2 : c ≤ 57) : C2 YX2_doPart 4 σ [rf p, rf a, iv i, iv ((i + 2 : Nat) : Int)] (PI fun σ' z => z = prayZ A (m - 65) (c - 48) ∧ RA σ' a (prayR A (m - 65) (c - 48)) ∧ FA σ σ' a) := by
  have k1 := kd_pad hp
  have hL1 := hL.1
  have hi : i + 2 < xs.length := (List.getElem?_eq_some_iff.mp hc).1
  have hi1 : i + 1 < xs.length := (List.getElem?_eq_some_iff.mp hop).1
  have f1 := hR.2 i m hm
  have f2 := hR.2 (i + 1) op hop
  have f3 := hR.2 (i + 2) c hc
  refine C2.of (by decide +kernel) (Nat.le_of_ble_eq_true rfl) ?_
  refine r_iload_n (Y := YX2_doPart) dX2_doPart_0 rfl ?_
  refine r_iload_n (Y := YX2_doPart) dX2_doPart_1 rfl ?_
  refine r_icmp_ne (Y := YX2_doPart) (tgt := 11) dX2_doPart_2 (by decide) (fun c2 => ?_) (fun c2 => absurd c2 (by omega)) 
  refine r_aload_n (Y := YX2_doPart) dX2_doPart_11 rfl ?_
  refine r_getR (Y := YX2_doPart) (δz := 1) fl_X2_9 dX2_doPart_12 rfl rfl ?_
  refine r_iload_n (Y := YX2_doPart) dX2_doPart_15 rfl ?_
  refine r_iaV (Y := YX2_doPart) (v := m) dX2_doPart_16 (f1) ?_
  refine r_bipush (Y := YX2_doPart) dX2_doPart_17 ?_
  refine r_isub (Y := YX2_doPart) dX2_doPart_19 ?_
  refine r_istore (Y := YX2_doPart) dX2_doPart_20 ?_
  refine r_aload_n (Y := YX2_doPart) dX2_doPart_22 rfl ?_
  refine r_getR (Y := YX2_doPart) (δz := 1) fl_X2_9 dX2_doPart_23 rfl rfl ?_
  refine r_iload_n (Y := YX2_doPart) dX2_doPart_26 rfl ?_
  refine r_iaV (Y := YX2_doPart) (v := c) dX2_doPart_27 (f3) ?_
  refine r_bipush (Y := YX2_doPart) dX2_doPart_28 ?_
  refine r_isub (Y := YX2_doPart) dX2_doPart_30 ?_
  refine r_istore (Y := YX2_doPart) dX2_doPart_31 ?_
  refine r_aload_n (Y := YX2_doPart) dX2_doPart_33 rfl ?_
  refine r_getR (Y := YX2_doPart) (δz := 1) fl_X2_9 dX2_doPart_34 rfl rfl ?_
  refine r_iload_n (Y := YX2_doPart) dX2_doPart_37 rfl ?_
  refine r_iconst (Y := YX2_doPart) dX2_doPart_38 ?_
  refine r_iadd (Y := YX2_doPart) dX2_doPart_39 ?_
  refine r_iaV (Y := YX2_doPart) (v := op) dX2_doPart_40 (f2) ?_
  subst ho
  refine r_lookup (Y := YX2_doPart) (off := 36) (tgt := 77) dX2_doPart_41 (by decide) (by decide) (by decide) ?_
  refine r_aload_n (Y := YX2_doPart) dX2_doPart_77 rfl ?_
  refine r_iload (Y := YX2_doPart) dX2_doPart_78 rfl ?_
  refine r_iload (Y := YX2_doPart) dX2_doPart_80 rfl ?_
  refine r_iV2I (Y := YX2_doPart) mv_X2_39 dX2_doPart_82 (c_X0_pray ha hA hW (by omega) (by omega) (by omega) (by omega)) (by assumption) (fun σ82 z82 h82 => ?_)
  refine r_ireturn (Y := YX2_doPart) dX2_doPart_85 ?_
  exact h82
set_option maxRecDepth 20000 in
theorem c_X2_doPart_weave {σ : ab_S} {p a : Int} {xs : List Int} {A : AB} (hp : kd_ p 2 2) (ha : kd_ a 0 8) (hR : RD σ p xs) (hL : WD xs) (hA : RA σ a A) (hW : WA A) {i : Nat} {m c op : Int} (hm : xs[i]? = some m) (hop : xs[i + 1]? = some op) (hc : xs[i + 1]? = some c) (hm1 : 65 ≤ m) (hm2 : m ≤ 70) (hc1 : 48 ≤ c) (hc2 : c ≤ 51) (ho : op = c) : C2 YX2_doPart 4 σ [rf p, rf a, iv i, iv ((i + 1 : Nat) : Int)] (PI fun σ' z => z = weaveZ A (m - 65) (c - 48) ∧ RA σ' a (weaveR A (m - 65) (c - 48)) ∧ FA σ σ' a) := by
  have k1 := kd_pad hp
  have hL1 := hL.1
  have hi : i + 1 < xs.length := (List.getElem?_eq_some_iff.mp hc).1
  have hi1 : i + 1 < xs.length := (List.getElem?_eq_some_iff.mp hop).1
  have f1 := hR.2 i m hm
  have f2 := hR.2 (i + 1) op hop
  have f3 := hR.2 (i + 1) c hc
  refine C2.of (by decide +kernel) (Nat.le_of_ble_eq_true rfl) ?_
  refine r_iload_n (Y := YX2_doPart) dX2_doPart_0 rfl ?_
  refine r_iload_n (Y := YX2_doPart) dX2_doPart_1 rfl ?_
  refine r_icmp_ne (Y := YX2_doPart) (tgt := 11) dX2_doPart_2 (by decide) (fun c2 => ?_) (fun c2 => absurd c2 (by omega)) 
  refine r_aload_n (Y := YX2_doPart) dX2_doPart_11 rfl ?_
  refine r_getR (Y := YX2_doPart) (δz := 1) fl_X2_9 dX2_doPart_12 rfl rfl ?_
  refine r_iload_n (Y := YX2_doPart) dX2_doPart_15 rfl ?_
  refine r_iaV (Y := YX2_doPart) (v := m) dX2_doPart_16 (f1) ?_
  refine r_bipush (Y := YX2_doPart) dX2_doPart_17 ?_
  refine r_isub (Y := YX2_doPart) dX2_doPart_19 ?_
  refine r_istore (Y := YX2_doPart) dX2_doPart_20 ?_
  refine r_aload_n (Y := YX2_doPart) dX2_doPart_22 rfl ?_
  refine r_getR (Y := YX2_doPart) (δz := 1) fl_X2_9 dX2_doPart_23 rfl rfl ?_
  refine r_iload_n (Y := YX2_doPart) dX2_doPart_26 rfl ?_
  refine r_iaV (Y := YX2_doPart) (v := c) dX2_doPart_27 (f3) ?_
  refine r_bipush (Y := YX2_doPart) dX2_doPart_28 ?_
  refine r_isub (Y := YX2_doPart) dX2_doPart_30 ?_
  refine r_istore (Y := YX2_doPart) dX2_doPart_31 ?_
  refine r_aload_n (Y := YX2_doPart) dX2_doPart_33 rfl ?_
  refine r_getR (Y := YX2_doPart) (δz := 1) fl_X2_9 dX2_doPart_34 rfl rfl ?_
  refine r_iload_n (Y := YX2_doPart) dX2_doPart_37 rfl ?_
  refine r_iconst (Y := YX2_doPart) dX2_doPart_38 ?_
  refine r_iadd (Y := YX2_doPart) dX2_doPart_39 ?_
  refine r_iaV (Y := YX2_doPart) (v := op) dX2_doPart_40 (f2) ?_
  refine r_lookup (Y := YX2_doPart) (off := 45) (tgt := 86) dX2_doPart_41 (by decide) (by show Op.lookupswitch.offset [(43, 27), (45, 36)] 45 op = 45; rw [Op.lookupswitch.offset_cons, if_neg (by omega), Op.lookupswitch.offset_cons, if_neg (by omega)]; rfl) (by decide) ?_
  refine r_aload_n (Y := YX2_doPart) dX2_doPart_86 rfl ?_
  refine r_iload (Y := YX2_doPart) dX2_doPart_87 rfl ?_
  refine r_iload (Y := YX2_doPart) dX2_doPart_89 rfl ?_
  refine r_iV2I (Y := YX2_doPart) mv_X2_42 dX2_doPart_91 (c_X0_weave ha hA hW (by omega) (by omega) (by omega) (by omega)) (by assumption) (fun σ91 z91 h91 => ?_)
  refine r_ireturn (Y := YX2_doPart) dX2_doPart_94 ?_
  exact h91
set_option maxRecDepth 20000 in
theorem c_X2_follow {σ : ab_S} {p a : Int} {xs : List Int} {A : AB} (hp : kd_ p 2 2) (ha : kd_ a 0 8) (hR : RD σ p xs) (hL : WD xs) (hA : RA σ a A) (hW : WA A) (hf : fault xs = -6) (hap : p + 1 < a ∨ a + 22 < p) : C2 YX2_follow 5 σ [rf p, rf a] (PI fun σ' z => z = 8 * (follow xs A).1 + (follow xs A).2.1 ∧ RA σ' a (follow xs A).2.2 ∧ FA σ σ' a) := by
  have k1 := kd_pad hp
  have hL1 := hL.1
  refine C2.of (by decide +kernel) (Nat.le_of_ble_eq_true rfl) ?_
  refine r_iconst (Y := YX2_follow) dX2_follow_0 ?_
  refine r_istore_n (Y := YX2_follow) dX2_follow_1 ?_
  refine r_iconst (Y := YX2_follow) dX2_follow_2 ?_
  refine r_istore_n (Y := YX2_follow) dX2_follow_3 ?_
  refine r_iconst (Y := YX2_follow) dX2_follow_4 ?_
  refine r_istore (Y := YX2_follow) dX2_follow_5 ?_
  refine r_iconst (Y := YX2_follow) dX2_follow_7 ?_
  refine r_istore (Y := YX2_follow) dX2_follow_8 ?_
  suffices hloop : ∀ (k i s : Nat) (e m op q : Int) (τ : ab_S) (B : AB), i + k = xs.length → ((e = 0 ∧ s = i) ∨ (e = 1 ∧ s + 1 = i ∧ xs[s]? = some m ∧ 65 ≤ m ∧ m ≤ 70) ∨ (e = 2 ∧ s + 2 = i ∧ xs[s]? = some m ∧ xs[s + 1]? = some op ∧ 65 ≤ m ∧ m ≤ 70 ∧ (op = 43 ∨ op = 45))) → 0 ≤ q → q ≤ i → fltL e i (xs.drop i) = -6 → folS (xs.drop i) e m op q B = follow xs A → RA τ a B → WA B → FA σ τ a → R2 YX2_follow 5 τ 10 [some (rf p), some (rf a), some (iv q), some (iv e), some (iv s), some (iv i), none] [] (PI fun σ' z => z = 8 * (follow xs A).1 + (follow xs A).2.1 ∧ RA σ' a (follow xs A).2.2 ∧ FA σ σ' a) from
    R2.weak (by repeat first | exact trivial | refine And.intro rfl ?_) (hloop xs.length 0 0 0 0 0 0 σ A (by omega) (Or.inl ⟨rfl, rfl⟩) (by omega) (by omega) (by rw [List.drop_zero]; exact hf) (by rw [List.drop_zero]; rfl) hA hW FA.rf)
  intro k
  induction k with
  | zero =>
    intro i s e m op q τ B e1 e2 e3 e4 e5 e6 hB hWB hF
    have hRt : RD τ p xs := hR.kept (fun k j _ _ => hF k j (by omega))
    rw [dropI_end (by omega)] at e6
    have e7 : (q, 0, B) = follow xs A := e6
    refine r_iload (Y := YX2_follow) dX2_follow_10 rfl ?_
    refine r_aload_n (Y := YX2_follow) dX2_follow_12 rfl ?_
    refine r_getV (Y := YX2_follow) (v := (xs.length : Int)) (jz := 1) fl_X2_15 dX2_follow_13 (hRt.1) ?_
    refine r_icmp_ge (Y := YX2_follow) (tgt := 79) dX2_follow_16 (by decide) (fun c16 => ?_) (fun c16 => absurd c16 (by omega)) 
    refine r_iload_n (Y := YX2_follow) dX2_follow_79 rfl ?_
    refine r_bipush (Y := YX2_follow) dX2_follow_80 ?_
    refine r_imul (Y := YX2_follow) dX2_follow_82 ?_
    refine r_ireturn (Y := YX2_follow) dX2_follow_83 ?_
    rw [← e7]
    exact ⟨by show q * 8 = 8 * q + 0; omega, hB, hF⟩
  | succ k ih =>
    intro i s e m op q τ B e1 e2 e3 e4 e5 e6 hB hWB hF
    have hRt : RD τ p xs := hR.kept (fun k j _ _ => hF k j (by omega))
    obtain ⟨c, hc, hm⟩ := getI_some (L := xs) (i := i) (by omega)
    have hcb := hL.2 c hm
    have hbb := beh_bd e c
    rw [dropI_cons hc] at e5 e6
    have e8 : (if beh e c = 3 then (i : Int) else fltL (beh e c) (i + 1) (xs.drop (i + 1))) = -6 := e5
    have hb3 : ¬ beh e c = 3 := fun h => by rw [if_pos h] at e8; omega
    rw [if_neg hb3] at e8
    rcases e2 with ⟨rfl, rfl⟩ | ⟨rfl, hs, hxm, hm1, hm2⟩ | ⟨rfl, hs, hxm, hxo, hm1, hm2, hop⟩
    · have e9 : (if c = 46 then folS (xs.drop (s + 1)) 0 0 0 (q + 1) (weekA B) else folS (xs.drop (s + 1)) 1 c 0 q B) = follow xs A := e6
      by_cases h46 : c = 46
      · have hbe : beh 0 c = 0 := by show (if c = 46 then (0 : Int) else if 65 ≤ c ∧ c ≤ 70 then 1 else 3) = 0; rw [if_pos h46]
        rw [hbe] at e8
        rw [if_pos h46] at e9
        refine r_iload (Y := YX2_follow) dX2_follow_10 rfl ?_
        refine r_aload_n (Y := YX2_follow) dX2_follow_12 rfl ?_
        refine r_getV (Y := YX2_follow) (v := (xs.length : Int)) (jz := 1) fl_X2_15 dX2_follow_13 (hRt.1) ?_
        refine r_icmp_ge (Y := YX2_follow) (tgt := 79) dX2_follow_16 (by decide) (fun c16 => absurd c16 (by omega)) (fun c16 => ?_) 
        refine r_iload_n (Y := YX2_follow) dX2_follow_19 rfl ?_
        refine r_iconst (Y := YX2_follow) dX2_follow_20 ?_
        refine r_icmp_eq (Y := YX2_follow) (tgt := 79) dX2_follow_21 (by decide) (fun c21 => absurd c21 (by omega)) (fun c21 => ?_) 
        refine r_iload_n (Y := YX2_follow) dX2_follow_24 rfl ?_
        refine r_aload_n (Y := YX2_follow) dX2_follow_25 rfl ?_
        refine r_getR (Y := YX2_follow) (δz := 1) fl_X2_9 dX2_follow_26 rfl rfl ?_
        refine r_iload (Y := YX2_follow) dX2_follow_29 rfl ?_
        refine r_iaV (Y := YX2_follow) (v := c) dX2_follow_31 (hRt.2 s c hc) ?_
        refine r_iS2I (Y := YX2_follow) ms_X2_19 dX2_follow_32 (c_X2_behind (by omega) (by omega) (by omega) (by omega)) (fun σ32 z32 h32 => ?_)
        obtain ⟨rfl, rfl⟩ := h32
        rw [hbe]
        refine r_istore_n (Y := YX2_follow) dX2_follow_35 ?_
        refine r_iload_n (Y := YX2_follow) dX2_follow_36 rfl ?_
        refine r_if_ne (Y := YX2_follow) (tgt := 73) dX2_follow_37 (by decide) (fun c37 => absurd c37 (by omega)) (fun c37 => ?_) 
        refine r_aload_n (Y := YX2_follow) dX2_follow_40 rfl ?_
        refine r_aload_n (Y := YX2_follow) dX2_follow_41 rfl ?_
        refine r_iload (Y := YX2_follow) dX2_follow_42 rfl ?_
        refine r_iload (Y := YX2_follow) dX2_follow_44 rfl ?_
        refine r_iV3I (Y := YX2_follow) mv_X2_27 dX2_follow_46 (c_X2_doPart_week hp ha hRt hL hB hWB (i := s) (by omega)) (by assumption) (fun σ46 z46 h46 => ?_)
        obtain ⟨rfl, b2, b3⟩ := h46
        refine r_istore (Y := YX2_follow) dX2_follow_49 ?_
        refine r_iload (Y := YX2_follow) dX2_follow_51 rfl ?_
        refine r_if_eq (Y := YX2_follow) (tgt := 64) dX2_follow_53 (by decide) (fun c53 => ?_) (fun c53 => absurd c53 (fun h => h rfl)) 
        refine r_iinc (Y := YX2_follow) dX2_follow_64 rfl ?_
        refine r_iload (Y := YX2_follow) dX2_follow_67 rfl ?_
        refine r_iconst (Y := YX2_follow) dX2_follow_69 ?_
        refine r_iadd (Y := YX2_follow) dX2_follow_70 ?_
        refine r_istore (Y := YX2_follow) dX2_follow_71 ?_
        refine r_iinc (Y := YX2_follow) dX2_follow_73 rfl ?_
        refine r_goto (Y := YX2_follow) (tgt := 10) dX2_follow_76 (by decide) ?_
        exact R2.weak (by repeat first | exact trivial | refine And.intro rfl ?_) (ih (s + 1) (s + 1) 0 0 0 (q + 1) _ (weekA B) (by omega) (Or.inl ⟨rfl, rfl⟩) (by omega) (by omega) e8 e9 b2 (WA_weekA hWB) (fun k j h9 => by rw [b3 k j h9]; exact hF k j h9))
      · have h65 : 65 ≤ c ∧ c ≤ 70 := by
          apply Decidable.byContradiction
          intro h9
          apply hb3
          show (if c = 46 then (0 : Int) else if 65 ≤ c ∧ c ≤ 70 then 1 else 3) = 3
          rw [if_neg h46, if_neg h9]
        have hbe : beh 0 c = 1 := by show (if c = 46 then (0 : Int) else if 65 ≤ c ∧ c ≤ 70 then 1 else 3) = 1; rw [if_neg h46, if_pos h65]
        rw [hbe] at e8
        rw [if_neg h46] at e9
        refine r_iload (Y := YX2_follow) dX2_follow_10 rfl ?_
        refine r_aload_n (Y := YX2_follow) dX2_follow_12 rfl ?_
        refine r_getV (Y := YX2_follow) (v := (xs.length : Int)) (jz := 1) fl_X2_15 dX2_follow_13 (hRt.1) ?_
        refine r_icmp_ge (Y := YX2_follow) (tgt := 79) dX2_follow_16 (by decide) (fun c16 => absurd c16 (by omega)) (fun c16 => ?_) 
        refine r_iload_n (Y := YX2_follow) dX2_follow_19 rfl ?_
        refine r_iconst (Y := YX2_follow) dX2_follow_20 ?_
        refine r_icmp_eq (Y := YX2_follow) (tgt := 79) dX2_follow_21 (by decide) (fun c21 => absurd c21 (by omega)) (fun c21 => ?_) 
        refine r_iload_n (Y := YX2_follow) dX2_follow_24 rfl ?_
        refine r_aload_n (Y := YX2_follow) dX2_follow_25 rfl ?_
        refine r_getR (Y := YX2_follow) (δz := 1) fl_X2_9 dX2_follow_26 rfl rfl ?_
        refine r_iload (Y := YX2_follow) dX2_follow_29 rfl ?_
        refine r_iaV (Y := YX2_follow) (v := c) dX2_follow_31 (hRt.2 s c hc) ?_
        refine r_iS2I (Y := YX2_follow) ms_X2_19 dX2_follow_32 (c_X2_behind (by omega) (by omega) (by omega) (by omega)) (fun σ32 z32 h32 => ?_)
        obtain ⟨rfl, rfl⟩ := h32
        rw [hbe]
        refine r_istore_n (Y := YX2_follow) dX2_follow_35 ?_
        refine r_iload_n (Y := YX2_follow) dX2_follow_36 rfl ?_
        refine r_if_ne (Y := YX2_follow) (tgt := 73) dX2_follow_37 (by decide) (fun c37 => ?_) (fun c37 => absurd c37 (by omega)) 
        refine r_iinc (Y := YX2_follow) dX2_follow_73 rfl ?_
        refine r_goto (Y := YX2_follow) (tgt := 10) dX2_follow_76 (by decide) ?_
        exact R2.weak (by repeat first | exact trivial | refine And.intro rfl ?_) (ih (s + 1) s 1 c 0 q _ B (by omega) (Or.inr (Or.inl ⟨rfl, rfl, hc, h65.1, h65.2⟩)) (by omega) (by omega) e8 e9 hB hWB hF)
    · have e9 : (if c = 43 ∨ c = 45 then folS (xs.drop (i + 1)) 2 m c q B else if weaveZ B (m - 65) (c - 48) = 0 then folS (xs.drop (i + 1)) 0 0 0 (q + 1) (weaveR B (m - 65) (c - 48)) else (q, weaveZ B (m - 65) (c - 48), B)) = follow xs A := e6
      subst hs
      by_cases h43 : c = 43 ∨ c = 45
      · have hbe : beh 1 c = 2 := by show (if c = 43 ∨ c = 45 then (2 : Int) else if 48 ≤ c ∧ c ≤ 51 then 0 else 3) = 2; rw [if_pos h43]
        rw [hbe] at e8
        rw [if_pos h43] at e9
        refine r_iload (Y := YX2_follow) dX2_follow_10 rfl ?_
        refine r_aload_n (Y := YX2_follow) dX2_follow_12 rfl ?_
        refine r_getV (Y := YX2_follow) (v := (xs.length : Int)) (jz := 1) fl_X2_15 dX2_follow_13 (hRt.1) ?_
        refine r_icmp_ge (Y := YX2_follow) (tgt := 79) dX2_follow_16 (by decide) (fun c16 => absurd c16 (by omega)) (fun c16 => ?_) 
        refine r_iload_n (Y := YX2_follow) dX2_follow_19 rfl ?_
        refine r_iconst (Y := YX2_follow) dX2_follow_20 ?_
        refine r_icmp_eq (Y := YX2_follow) (tgt := 79) dX2_follow_21 (by decide) (fun c21 => absurd c21 (by omega)) (fun c21 => ?_) 
        refine r_iload_n (Y := YX2_follow) dX2_follow_24 rfl ?_
        refine r_aload_n (Y := YX2_follow) dX2_follow_25 rfl ?_
        refine r_getR (Y := YX2_follow) (δz := 1) fl_X2_9 dX2_follow_26 rfl rfl ?_
        refine r_iload (Y := YX2_follow) dX2_follow_29 rfl ?_
        refine r_iaV (Y := YX2_follow) (v := c) dX2_follow_31 (hRt.2 _ c hc) ?_
        refine r_iS2I (Y := YX2_follow) ms_X2_19 dX2_follow_32 (c_X2_behind (by omega) (by omega) (by omega) (by omega)) (fun σ32 z32 h32 => ?_)
        obtain ⟨rfl, rfl⟩ := h32
        rw [hbe]
        refine r_istore_n (Y := YX2_follow) dX2_follow_35 ?_
        refine r_iload_n (Y := YX2_follow) dX2_follow_36 rfl ?_
        refine r_if_ne (Y := YX2_follow) (tgt := 73) dX2_follow_37 (by decide) (fun c37 => ?_) (fun c37 => absurd c37 (by omega)) 
        refine r_iinc (Y := YX2_follow) dX2_follow_73 rfl ?_
        refine r_goto (Y := YX2_follow) (tgt := 10) dX2_follow_76 (by decide) ?_
        exact R2.weak (by repeat first | exact trivial | refine And.intro rfl ?_) (ih (s + 1 + 1) s 2 m c q _ B (by omega) (Or.inr (Or.inr ⟨rfl, rfl, hxm, hc, hm1, hm2, h43⟩)) (by omega) (by omega) e8 e9 hB hWB hF)
      · have h48 : 48 ≤ c ∧ c ≤ 51 := by
          apply Decidable.byContradiction
          intro h9
          apply hb3
          show (if c = 43 ∨ c = 45 then (2 : Int) else if 48 ≤ c ∧ c ≤ 51 then 0 else 3) = 3
          rw [if_neg h43, if_neg h9]
        have hbe : beh 1 c = 0 := by show (if c = 43 ∨ c = 45 then (2 : Int) else if 48 ≤ c ∧ c ≤ 51 then 0 else 3) = 0; rw [if_neg h43, if_pos h48]
        rw [hbe] at e8
        rw [if_neg h43] at e9
        have hzb := weaveZ_bd B (m - 65) (c - 48)
        refine r_iload (Y := YX2_follow) dX2_follow_10 rfl ?_
        refine r_aload_n (Y := YX2_follow) dX2_follow_12 rfl ?_
        refine r_getV (Y := YX2_follow) (v := (xs.length : Int)) (jz := 1) fl_X2_15 dX2_follow_13 (hRt.1) ?_
        refine r_icmp_ge (Y := YX2_follow) (tgt := 79) dX2_follow_16 (by decide) (fun c16 => absurd c16 (by omega)) (fun c16 => ?_) 
        refine r_iload_n (Y := YX2_follow) dX2_follow_19 rfl ?_
        refine r_iconst (Y := YX2_follow) dX2_follow_20 ?_
        refine r_icmp_eq (Y := YX2_follow) (tgt := 79) dX2_follow_21 (by decide) (fun c21 => absurd c21 (by omega)) (fun c21 => ?_) 
        refine r_iload_n (Y := YX2_follow) dX2_follow_24 rfl ?_
        refine r_aload_n (Y := YX2_follow) dX2_follow_25 rfl ?_
        refine r_getR (Y := YX2_follow) (δz := 1) fl_X2_9 dX2_follow_26 rfl rfl ?_
        refine r_iload (Y := YX2_follow) dX2_follow_29 rfl ?_
        refine r_iaV (Y := YX2_follow) (v := c) dX2_follow_31 (hRt.2 _ c hc) ?_
        refine r_iS2I (Y := YX2_follow) ms_X2_19 dX2_follow_32 (c_X2_behind (by omega) (by omega) (by omega) (by omega)) (fun σ32 z32 h32 => ?_)
        obtain ⟨rfl, rfl⟩ := h32
        rw [hbe]
        refine r_istore_n (Y := YX2_follow) dX2_follow_35 ?_
        refine r_iload_n (Y := YX2_follow) dX2_follow_36 rfl ?_
        refine r_if_ne (Y := YX2_follow) (tgt := 73) dX2_follow_37 (by decide) (fun c37 => absurd c37 (by omega)) (fun c37 => ?_) 
        refine r_aload_n (Y := YX2_follow) dX2_follow_40 rfl ?_
        refine r_aload_n (Y := YX2_follow) dX2_follow_41 rfl ?_
        refine r_iload (Y := YX2_follow) dX2_follow_42 rfl ?_
        refine r_iload (Y := YX2_follow) dX2_follow_44 rfl ?_
        refine r_iV3I (Y := YX2_follow) mv_X2_27 dX2_follow_46 (c_X2_doPart_weave hp ha hRt hL hB hWB hxm hc hc hm1 hm2 h48.1 h48.2 rfl) (by assumption) (fun σ46 z46 h46 => ?_)
        obtain ⟨rfl, b2, b3⟩ := h46
        refine r_istore (Y := YX2_follow) dX2_follow_49 ?_
        refine r_iload (Y := YX2_follow) dX2_follow_51 rfl ?_
        refine r_if_eq (Y := YX2_follow) (tgt := 64) dX2_follow_53 (by decide) (fun c53 => ?_) (fun c53 => ?_) 
        · refine r_iinc (Y := YX2_follow) dX2_follow_64 rfl ?_
          refine r_iload (Y := YX2_follow) dX2_follow_67 rfl ?_
          refine r_iconst (Y := YX2_follow) dX2_follow_69 ?_
          refine r_iadd (Y := YX2_follow) dX2_follow_70 ?_
          refine r_istore (Y := YX2_follow) dX2_follow_71 ?_
          refine r_iinc (Y := YX2_follow) dX2_follow_73 rfl ?_
          refine r_goto (Y := YX2_follow) (tgt := 10) dX2_follow_76 (by decide) ?_
          rw [if_pos c53] at e9
          exact R2.weak (by repeat first | exact trivial | refine And.intro rfl ?_) (ih (s + 1 + 1) (s + 1 + 1) 0 0 0 (q + 1) _ _ (by omega) (Or.inl ⟨rfl, rfl⟩) (by omega) (by omega) e8 e9 b2 (WA_weaveR hWB (by omega) (by omega) (by omega) (by omega)) (fun k j h9 => by rw [b3 k j h9]; exact hF k j h9))
        · refine r_iload_n (Y := YX2_follow) dX2_follow_56 rfl ?_
          refine r_bipush (Y := YX2_follow) dX2_follow_57 ?_
          refine r_imul (Y := YX2_follow) dX2_follow_59 ?_
          refine r_iload (Y := YX2_follow) dX2_follow_60 rfl ?_
          refine r_iadd (Y := YX2_follow) dX2_follow_62 ?_
          refine r_ireturn (Y := YX2_follow) dX2_follow_63 ?_
          rw [if_neg c53] at e9
          rw [← e9]
          refine ⟨?_, ?_, (fun k j h9 => by rw [b3 k j h9]; exact hF k j h9)⟩
          · dsimp only; omega
          · rw [weaveR_no c53] at b2
            exact b2
    · subst hs
      have h49 : 49 ≤ c ∧ c ≤ 57 := by
        apply Decidable.byContradiction
        intro h9
        apply hb3
        show (if 49 ≤ c ∧ c ≤ 57 then (0 : Int) else 3) = 3
        rw [if_neg h9]
      have hbe : beh 2 c = 0 := by show (if 49 ≤ c ∧ c ≤ 57 then (0 : Int) else 3) = 0; rw [if_pos h49]
      rw [hbe] at e8
      rcases hop with rfl | rfl
      · have e9 : (if sinZ B (m - 65) (c - 48) = 0 then folS (xs.drop (s + 2 + 1)) 0 0 0 (q + 1) (sinR B (m - 65) (c - 48)) else (q, sinZ B (m - 65) (c - 48), B)) = follow xs A := e6
        have hzb := sinZ_bd B (m - 65) (c - 48)
        refine r_iload (Y := YX2_follow) dX2_follow_10 rfl ?_
        refine r_aload_n (Y := YX2_follow) dX2_follow_12 rfl ?_
        refine r_getV (Y := YX2_follow) (v := (xs.length : Int)) (jz := 1) fl_X2_15 dX2_follow_13 (hRt.1) ?_
        refine r_icmp_ge (Y := YX2_follow) (tgt := 79) dX2_follow_16 (by decide) (fun c16 => absurd c16 (by omega)) (fun c16 => ?_) 
        refine r_iload_n (Y := YX2_follow) dX2_follow_19 rfl ?_
        refine r_iconst (Y := YX2_follow) dX2_follow_20 ?_
        refine r_icmp_eq (Y := YX2_follow) (tgt := 79) dX2_follow_21 (by decide) (fun c21 => absurd c21 (by omega)) (fun c21 => ?_) 
        refine r_iload_n (Y := YX2_follow) dX2_follow_24 rfl ?_
        refine r_aload_n (Y := YX2_follow) dX2_follow_25 rfl ?_
        refine r_getR (Y := YX2_follow) (δz := 1) fl_X2_9 dX2_follow_26 rfl rfl ?_
        refine r_iload (Y := YX2_follow) dX2_follow_29 rfl ?_
        refine r_iaV (Y := YX2_follow) (v := c) dX2_follow_31 (hRt.2 _ c hc) ?_
        refine r_iS2I (Y := YX2_follow) ms_X2_19 dX2_follow_32 (c_X2_behind (by omega) (by omega) (by omega) (by omega)) (fun σ32 z32 h32 => ?_)
        obtain ⟨rfl, rfl⟩ := h32
        rw [hbe]
        refine r_istore_n (Y := YX2_follow) dX2_follow_35 ?_
        refine r_iload_n (Y := YX2_follow) dX2_follow_36 rfl ?_
        refine r_if_ne (Y := YX2_follow) (tgt := 73) dX2_follow_37 (by decide) (fun c37 => absurd c37 (by omega)) (fun c37 => ?_) 
        refine r_aload_n (Y := YX2_follow) dX2_follow_40 rfl ?_
        refine r_aload_n (Y := YX2_follow) dX2_follow_41 rfl ?_
        refine r_iload (Y := YX2_follow) dX2_follow_42 rfl ?_
        refine r_iload (Y := YX2_follow) dX2_follow_44 rfl ?_
        refine r_iV3I (Y := YX2_follow) mv_X2_27 dX2_follow_46 (c_X2_doPart_sin hp ha hRt hL hB hWB hxm hxo hc hm1 hm2 rfl h49.1 h49.2) (by assumption) (fun σ46 z46 h46 => ?_)
        obtain ⟨rfl, b2, b3⟩ := h46
        refine r_istore (Y := YX2_follow) dX2_follow_49 ?_
        refine r_iload (Y := YX2_follow) dX2_follow_51 rfl ?_
        refine r_if_eq (Y := YX2_follow) (tgt := 64) dX2_follow_53 (by decide) (fun c53 => ?_) (fun c53 => ?_) 
        · refine r_iinc (Y := YX2_follow) dX2_follow_64 rfl ?_
          refine r_iload (Y := YX2_follow) dX2_follow_67 rfl ?_
          refine r_iconst (Y := YX2_follow) dX2_follow_69 ?_
          refine r_iadd (Y := YX2_follow) dX2_follow_70 ?_
          refine r_istore (Y := YX2_follow) dX2_follow_71 ?_
          refine r_iinc (Y := YX2_follow) dX2_follow_73 rfl ?_
          refine r_goto (Y := YX2_follow) (tgt := 10) dX2_follow_76 (by decide) ?_
          rw [if_pos c53] at e9
          exact R2.weak (by repeat first | exact trivial | refine And.intro rfl ?_) (ih (s + 2 + 1) (s + 2 + 1) 0 0 0 (q + 1) _ _ (by omega) (Or.inl ⟨rfl, rfl⟩) (by omega) (by omega) e8 e9 b2 (WA_sinR hWB (by omega) (by omega) (by omega)) (fun k j h9 => by rw [b3 k j h9]; exact hF k j h9))
        · refine r_iload_n (Y := YX2_follow) dX2_follow_56 rfl ?_
          refine r_bipush (Y := YX2_follow) dX2_follow_57 ?_
          refine r_imul (Y := YX2_follow) dX2_follow_59 ?_
          refine r_iload (Y := YX2_follow) dX2_follow_60 rfl ?_
          refine r_iadd (Y := YX2_follow) dX2_follow_62 ?_
          refine r_ireturn (Y := YX2_follow) dX2_follow_63 ?_
          rw [if_neg c53] at e9
          rw [← e9]
          refine ⟨?_, ?_, (fun k j h9 => by rw [b3 k j h9]; exact hF k j h9)⟩
          · dsimp only; omega
          · rw [sinR_no c53] at b2
            exact b2
      · have e9 : (if prayZ B (m - 65) (c - 48) = 0 then folS (xs.drop (s + 2 + 1)) 0 0 0 (q + 1) (prayR B (m - 65) (c - 48)) else (q, prayZ B (m - 65) (c - 48), B)) = follow xs A := e6
        have hzb := prayZ_bd B (m - 65) (c - 48)
        refine r_iload (Y := YX2_follow) dX2_follow_10 rfl ?_
        refine r_aload_n (Y := YX2_follow) dX2_follow_12 rfl ?_
        refine r_getV (Y := YX2_follow) (v := (xs.length : Int)) (jz := 1) fl_X2_15 dX2_follow_13 (hRt.1) ?_
        refine r_icmp_ge (Y := YX2_follow) (tgt := 79) dX2_follow_16 (by decide) (fun c16 => absurd c16 (by omega)) (fun c16 => ?_) 
        refine r_iload_n (Y := YX2_follow) dX2_follow_19 rfl ?_
        refine r_iconst (Y := YX2_follow) dX2_follow_20 ?_
        refine r_icmp_eq (Y := YX2_follow) (tgt := 79) dX2_follow_21 (by decide) (fun c21 => absurd c21 (by omega)) (fun c21 => ?_) 
        refine r_iload_n (Y := YX2_follow) dX2_follow_24 rfl ?_
        refine r_aload_n (Y := YX2_follow) dX2_follow_25 rfl ?_
        refine r_getR (Y := YX2_follow) (δz := 1) fl_X2_9 dX2_follow_26 rfl rfl ?_
        refine r_iload (Y := YX2_follow) dX2_follow_29 rfl ?_
        refine r_iaV (Y := YX2_follow) (v := c) dX2_follow_31 (hRt.2 _ c hc) ?_
        refine r_iS2I (Y := YX2_follow) ms_X2_19 dX2_follow_32 (c_X2_behind (by omega) (by omega) (by omega) (by omega)) (fun σ32 z32 h32 => ?_)
        obtain ⟨rfl, rfl⟩ := h32
        rw [hbe]
        refine r_istore_n (Y := YX2_follow) dX2_follow_35 ?_
        refine r_iload_n (Y := YX2_follow) dX2_follow_36 rfl ?_
        refine r_if_ne (Y := YX2_follow) (tgt := 73) dX2_follow_37 (by decide) (fun c37 => absurd c37 (by omega)) (fun c37 => ?_) 
        refine r_aload_n (Y := YX2_follow) dX2_follow_40 rfl ?_
        refine r_aload_n (Y := YX2_follow) dX2_follow_41 rfl ?_
        refine r_iload (Y := YX2_follow) dX2_follow_42 rfl ?_
        refine r_iload (Y := YX2_follow) dX2_follow_44 rfl ?_
        refine r_iV3I (Y := YX2_follow) mv_X2_27 dX2_follow_46 (c_X2_doPart_pray hp ha hRt hL hB hWB hxm hxo hc hm1 hm2 rfl h49.1 h49.2) (by assumption) (fun σ46 z46 h46 => ?_)
        obtain ⟨rfl, b2, b3⟩ := h46
        refine r_istore (Y := YX2_follow) dX2_follow_49 ?_
        refine r_iload (Y := YX2_follow) dX2_follow_51 rfl ?_
        refine r_if_eq (Y := YX2_follow) (tgt := 64) dX2_follow_53 (by decide) (fun c53 => ?_) (fun c53 => ?_) 
        · refine r_iinc (Y := YX2_follow) dX2_follow_64 rfl ?_
          refine r_iload (Y := YX2_follow) dX2_follow_67 rfl ?_
          refine r_iconst (Y := YX2_follow) dX2_follow_69 ?_
          refine r_iadd (Y := YX2_follow) dX2_follow_70 ?_
          refine r_istore (Y := YX2_follow) dX2_follow_71 ?_
          refine r_iinc (Y := YX2_follow) dX2_follow_73 rfl ?_
          refine r_goto (Y := YX2_follow) (tgt := 10) dX2_follow_76 (by decide) ?_
          rw [if_pos c53] at e9
          exact R2.weak (by repeat first | exact trivial | refine And.intro rfl ?_) (ih (s + 2 + 1) (s + 2 + 1) 0 0 0 (q + 1) _ _ (by omega) (Or.inl ⟨rfl, rfl⟩) (by omega) (by omega) e8 e9 b2 (WA_prayR hWB (by omega) (by omega) (by omega)) (fun k j h9 => by rw [b3 k j h9]; exact hF k j h9))
        · refine r_iload_n (Y := YX2_follow) dX2_follow_56 rfl ?_
          refine r_bipush (Y := YX2_follow) dX2_follow_57 ?_
          refine r_imul (Y := YX2_follow) dX2_follow_59 ?_
          refine r_iload (Y := YX2_follow) dX2_follow_60 rfl ?_
          refine r_iadd (Y := YX2_follow) dX2_follow_62 ?_
          refine r_ireturn (Y := YX2_follow) dX2_follow_63 ?_
          rw [if_neg c53] at e9
          rw [← e9]
          refine ⟨?_, ?_, (fun k j h9 => by rw [b3 k j h9]; exact hF k j h9)⟩
          · dsimp only; omega
          · rw [prayR_no c53] at b2
            exact b2
