/-! wigs: what sets weigh -/
def wtN (h : Int → Int) (s : Int) : Nat → Int
  | 0 => 0
  | n + 1 => wtN h s n + if bt s n = 1 then h n else 0
def wt (h : Int → Int) (s : Int) : Int := wtN h s 6
def andn (x w : Int) : Int := ban x (bxo w (-1))
theorem andn_dec : ∀ x : Nat, x < 64 → ∀ w : Nat, w < 64 → 0 ≤ andn x w ∧ andn x w < 64 := by decide +kernel
theorem andn_bd {x w : Int} (h1 : 0 ≤ x) (h2 : x < 64) (h3 : 0 ≤ w) (h4 : w < 64) : 0 ≤ andn x w ∧ andn x w < 64 := by
  have := andn_dec x.toNat (by omega) w.toNat (by omega)
  rwa [show ((x.toNat : Nat) : Int) = x by omega, show ((w.toNat : Nat) : Int) = w by omega] at this
theorem wtN_bd {h : Int → Int} {s : Int} (hh : ∀ m : Int, 0 ≤ m → m < 6 → 0 ≤ h m ∧ h m ≤ 40) : ∀ n : Nat, n ≤ 6 → 0 ≤ wtN h s n ∧ wtN h s n ≤ 40 * n
  | 0, _ => by simp [wtN]
  | n + 1, hn => by
    have h1 := wtN_bd hh n (by omega) (s := s)
    have h2 := hh n (by omega) (by omega)
    show 0 ≤ wtN h s n + (if bt s n = 1 then h n else 0) ∧ wtN h s n + (if bt s n = 1 then h n else 0) ≤ 40 * ((n + 1 : Nat) : Int)
    split <;> omega
theorem wt_bd {h : Int → Int} {s : Int} (hh : ∀ m : Int, 0 ≤ m → m < 6 → 0 ≤ h m ∧ h m ≤ 40) : 0 ≤ wt h s ∧ wt h s ≤ 240 := wtN_bd hh 6 (Nat.le_refl 6)
theorem wtN_congr {f g : Int → Int} {s : Int} (h : ∀ m : Int, 0 ≤ m → m < 6 → f m = g m) : ∀ n : Nat, n ≤ 6 → wtN f s n = wtN g s n
  | 0, _ => rfl
  | n + 1, hn => by
    show wtN f s n + (if bt s n = 1 then f n else 0) = wtN g s n + (if bt s n = 1 then g n else 0)
    rw [wtN_congr h n (by omega), h n (by omega) (by omega)]
theorem wt_zero (h : Int → Int) : wt h 0 = 0 := by
  have e : ∀ n : Nat, n < 6 → ¬ bt 0 n = 1 := by decide +kernel
  have e2 : ∀ n : Nat, n ≤ 6 → wtN h 0 n = 0 := by
    intro n
    induction n with
    | zero => intro _; rfl
    | succ n ih =>
      intro hn
      show wtN h 0 n + (if bt 0 n = 1 then h n else 0) = 0
      rw [ih (by omega), if_neg (e n (by omega))]
      rfl
  exact e2 6 (Nat.le_refl 6)
theorem wt_dec : ∀ s : Nat, s < 64 → 1 ≤ s → (0 ≤ ban (s : Int) ((s : Int) - 1) ∧ ban (s : Int) ((s : Int) - 1) < s) ∧ (0 ≤ tz6 s ∧ tz6 s < 6) ∧ ∀ m : Nat, m < 6 → if (m : Int) = tz6 s then bt s m = 1 ∧ bt (ban (s : Int) ((s : Int) - 1)) m = 0 else bt (ban (s : Int) ((s : Int) - 1)) m = bt s m := by decide +kernel
theorem wtN_low {h : Int → Int} {s t l : Int} (hb : ∀ m : Nat, m < 6 → if (m : Int) = l then bt s m = 1 ∧ bt t m = 0 else bt t m = bt s m) : ∀ n : Nat, n ≤ 6 → wtN h s n = wtN h t n + if 0 ≤ l ∧ l < n then h l else 0
  | 0, _ => by
    show (0 : Int) = 0 + _
    rw [if_neg (by omega)]
    rfl
  | n + 1, hn => by
    have ih := wtN_low (h := h) hb n (by omega)
    have h1 := hb n (by omega)
    show wtN h s n + (if bt s n = 1 then h n else 0) = wtN h t n + (if bt t n = 1 then h n else 0) + _
    by_cases e : (n : Int) = l
    · rw [if_pos e] at h1
      rw [ih, if_neg (by omega), if_pos h1.1, if_neg (by rw [h1.2]; decide), if_pos (by omega), ← e]
    · rw [if_neg e] at h1
      rw [ih, h1]
      have e3 : (if 0 ≤ l ∧ l < ((n + 1 : Nat) : Int) then h l else 0) = (if 0 ≤ l ∧ l < (n : Int) then h l else 0) := by
        by_cases e2 : 0 ≤ l ∧ l < (n : Int)
        · rw [if_pos e2, if_pos (by omega)]
        · rw [if_neg e2, if_neg (by omega)]
      rw [e3, Int.add_right_comm]
theorem wt_low {h : Int → Int} {s : Nat} (h1 : 1 ≤ s) (h2 : s < 64) : (0 ≤ ban (s : Int) ((s : Int) - 1) ∧ ban (s : Int) ((s : Int) - 1) < s) ∧ (0 ≤ tz6 s ∧ tz6 s < 6) ∧ wt h s = wt h (ban (s : Int) ((s : Int) - 1)) + h (tz6 s) := by
  obtain ⟨a1, a2, a3⟩ := wt_dec s h2 h1
  refine ⟨a1, a2, ?_⟩
  have := wtN_low (h := h) a3 6 (Nat.le_refl 6)
  rw [if_pos (by omega)] at this
  exact this
/-- which sets of wearers fit, in order -/
def fitL (h : Int → Int) (w : Int) : List (Int × Int) → Bool
  | [] => true
  | q :: r => decide (wt h (andn q.1 w) = q.2) && fitL h w r
def cb (h : Int → Int) (we : List (Int × Int)) : Nat → List Int
  | 0 => []
  | n + 1 => if fitL h n we then cb h we n ++ [(n : Int)] else cb h we n
def OKW (we : List (Int × Int)) : Prop := ∀ q ∈ we, 1 ≤ q.1 ∧ q.1 ≤ 63 ∧ 0 ≤ q.2 ∧ q.2 ≤ 240
def eachL : Int → List Int → Int
  | x, [] => x
  | x, v :: r => eachL (ban x v) r
def someL : Int → List Int → Int
  | x, [] => x
  | x, v :: r => someL (bor x v) r
def alm (h : Int → Int) (s : Int) : List Int → (Int → Int) → Int → Int
  | [], _, mo => mo
  | w :: r, c, mo => alm h s r (fu c (wt h (andn s w)) (c (wt h (andn s w)) + 1)) (max mo (c (wt h (andn s w)) + 1))
def almA (h : Int → Int) (s : Int) (F : List Int) : Int := alm h s F (fun _ => 0) 0
def askN (h : Int → Int) (F : List Int) : Nat → Int × Int
  | 0 => (1, 65)
  | n + 1 => if almA h ((n + 1 : Nat) : Int) F < (askN h F n).2 then (((n + 1 : Nat) : Int), almA h ((n + 1 : Nat) : Int) F) else askN h F n
theorem cb_len (h : Int → Int) (we : List (Int × Int)) : ∀ n : Nat, (cb h we n).length ≤ n ∧ ∀ v ∈ cb h we n, 0 ≤ v ∧ v < n
  | 0 => ⟨Nat.le_refl _, fun v hv => by cases hv⟩
  | n + 1 => by
    obtain ⟨h1, h2⟩ := cb_len h we n
    unfold cb
    split
    · refine ⟨by rw [List.length_append]; show _ + 1 ≤ _; omega, fun v hv => ?_⟩
      rcases List.mem_append.mp hv with hv | hv
      · have := h2 v hv; omega
      · rw [List.mem_singleton.mp hv]; omega
    · exact ⟨by omega, fun v hv => by have := h2 v hv; omega⟩
theorem alm_bd {h : Int → Int} {s : Int} : ∀ {F : List Int} {c : Int → Int} {mo : Int}, (∀ k, 0 ≤ c k ∧ c k ≤ 1000 - F.length) → 0 ≤ mo → mo ≤ 1000 → 0 ≤ alm h s F c mo ∧ alm h s F c mo ≤ 1000
  | [], _, _, _, h1, h2 => ⟨h1, h2⟩
  | w :: r, c, mo, hc, h1, h2 => by
    have e : ((w :: r).length : Int) = r.length + 1 := rfl
    have hk := hc (wt h (andn s w))
    refine alm_bd (F := r) (fun k => ?_) (by omega) (by omega)
    have h3 := hc k
    unfold fu
    split <;> omega
def WG (σ : ab_S) (g : Int) (h : Int → Int) : Prop := ∀ s : Int, 0 ≤ s → s < 64 → σ (g + 1) s = wt h s
def FT (σ : ab_S) (g : Int) (F : List Int) : Prop := σ g 3 = F.length ∧ ∀ (i : Nat) (v : Int), F[i]? = some v → σ (g + 3) i = v
def ZA (σ : ab_S) (g : Int) : Prop := ∀ i : Int, 0 ≤ i → i < 241 → σ (g + 2) i = 0
theorem dropP_cons {L : List (Int × Int)} {i : Nat} {l : Int × Int} (h : L[i]? = some l) : L.drop i = l :: L.drop (i + 1) := by
  obtain ⟨hi, he⟩ := List.getElem?_eq_some_iff.mp h
  rw [List.drop_eq_getElem_cons hi, he]
theorem getP_some {L : List (Int × Int)} {i : Nat} (h : i < L.length) : ∃ l, L[i]? = some l ∧ l ∈ L := ⟨L[i], List.getElem?_eq_getElem h, List.getElem_mem h⟩
theorem dropP_end {L : List (Int × Int)} {i : Nat} (h : L.length ≤ i) : L.drop i = [] := List.drop_eq_nil_of_le h
set_option maxRecDepth 20000 in
theorem c_X7_fits {σ : ab_S} {g q w : Int} {h : Int → Int} {we : List (Int × Int)} (hg : kd_ g 7 4) (hq : kd_ q 3 3) (hh : ∀ m : Int, 0 ≤ m → m < 6 → 0 ≤ h m ∧ h m ≤ 40) (hG : WG σ g h) (hR : RP σ q we) (hL : we.length ≤ 6) (hO : OKW we) (hw1 : 0 ≤ w) (hw2 : w < 64) : C2 YX7_fits 0 σ [rf g, iv w, rf q] (PI fun σ' z => σ' = σ ∧ z = if fitL h w we = true then 1 else 0) := by
  obtain ⟨k1, k2, k3⟩ := kd_wigs hg
  obtain ⟨j1, j2⟩ := kd_pairs hq
  refine C2.of (by decide +kernel) (Nat.le_of_ble_eq_true rfl) ?_
  refine r_iconst (Y := YX7_fits) dX7_fits_0 ?_
  refine r_istore_n (Y := YX7_fits) dX7_fits_1 ?_
  suffices hloop : ∀ (k i : Nat), i + k = we.length → fitL h w (we.drop i) = fitL h w we → R2 YX7_fits 0 σ 2 [some (rf g), some (iv w), some (rf q), some (iv i)] [] (PI fun σ' z => σ' = σ ∧ z = if fitL h w we = true then 1 else 0) from
    R2.weak (by repeat first | exact trivial | refine And.intro rfl ?_) (hloop we.length 0 (by omega) (by rw [List.drop_zero]))
  intro k
  induction k with
  | zero =>
    intro i e1 e2
    rw [dropP_end (by omega)] at e2
    have e3 : true = fitL h w we := e2
    refine r_iload_n (Y := YX7_fits) dX7_fits_2 rfl ?_
    refine r_aload_n (Y := YX7_fits) dX7_fits_3 rfl ?_
    refine r_getV (Y := YX7_fits) (v := (we.length : Int)) (jz := 2) fl_X7_35 dX7_fits_4 (hR.1) ?_
    refine r_icmp_ge (Y := YX7_fits) (tgt := 42) dX7_fits_7 (by decide) (fun c7 => ?_) (fun c7 => absurd c7 (by omega)) 
    refine r_iconst (Y := YX7_fits) dX7_fits_42 ?_
    refine r_zreturn (Y := YX7_fits) dX7_fits_43 (by decide) ?_
    exact ⟨rfl, by rw [if_pos e3.symm]⟩
  | succ k ih =>
    intro i e1 e2
    obtain ⟨x, hx, hm⟩ := getP_some (L := we) (i := i) (by omega)
    obtain ⟨f1, f2⟩ := hR.2 i x hx
    have ho := hO x hm
    have hab := andn_bd (x := x.1) (w := w) (by omega) (by omega) hw1 hw2
    have hwb := wt_bd (s := andn x.1 w) hh
    have hwv : σ (g + 1) (ban x.1 (bxo w (-1))) = wt h (andn x.1 w) := hG _ hab.1 hab.2
    rw [dropP_cons hx] at e2
    have e3 : (decide (wt h (andn x.1 w) = x.2) && fitL h w (we.drop (i + 1))) = fitL h w we := e2
    refine r_iload_n (Y := YX7_fits) dX7_fits_2 rfl ?_
    refine r_aload_n (Y := YX7_fits) dX7_fits_3 rfl ?_
    refine r_getV (Y := YX7_fits) (v := (we.length : Int)) (jz := 2) fl_X7_35 dX7_fits_4 (hR.1) ?_
    refine r_icmp_ge (Y := YX7_fits) (tgt := 42) dX7_fits_7 (by decide) (fun c7 => absurd c7 (by omega)) (fun c7 => ?_) 
    refine r_aload_n (Y := YX7_fits) dX7_fits_10 rfl ?_
    refine r_getR (Y := YX7_fits) (δz := 1) fl_X7_11 dX7_fits_11 rfl rfl ?_
    refine r_aload_n (Y := YX7_fits) dX7_fits_14 rfl ?_
    refine r_getR (Y := YX7_fits) (δz := 1) fl_X7_38 dX7_fits_15 rfl rfl ?_
    refine r_iload_n (Y := YX7_fits) dX7_fits_18 rfl ?_
    refine r_iaV (Y := YX7_fits) (v := x.1) dX7_fits_19 (f1) ?_
    refine r_iload_n (Y := YX7_fits) dX7_fits_20 rfl ?_
    refine r_iconst (Y := YX7_fits) dX7_fits_21 ?_
    refine r_ixor (Y := YX7_fits) dX7_fits_22 ?_
    refine r_iand (Y := YX7_fits) dX7_fits_23 ?_
    change R2 _ _ _ _ _ (iv (andn x.1 w) :: _) _
    refine r_iaV (Y := YX7_fits) (v := wt h (andn x.1 w)) dX7_fits_24 (hwv) ?_
    refine r_aload_n (Y := YX7_fits) dX7_fits_25 rfl ?_
    refine r_getR (Y := YX7_fits) (δz := 2) fl_X7_41 dX7_fits_26 rfl rfl ?_
    refine r_iload_n (Y := YX7_fits) dX7_fits_29 rfl ?_
    refine r_iaV (Y := YX7_fits) (v := x.2) dX7_fits_30 (f2) ?_
    refine r_icmp_eq (Y := YX7_fits) (tgt := 36) dX7_fits_31 (by decide) (fun c31 => ?_) (fun c31 => ?_) 
    · refine r_iinc (Y := YX7_fits) dX7_fits_36 rfl ?_
      refine r_goto (Y := YX7_fits) (tgt := 2) dX7_fits_39 (by decide) ?_
      rw [decide_eq_true c31, Bool.true_and] at e3
      exact R2.weak (by repeat first | exact trivial | refine And.intro rfl ?_) (ih (i + 1) (by omega) e3)
    · refine r_iconst (Y := YX7_fits) dX7_fits_34 ?_
      refine r_zreturn (Y := YX7_fits) dX7_fits_35 (by decide) ?_
      rw [decide_eq_false c31, Bool.false_and] at e3
      exact ⟨rfl, by rw [if_neg (by rw [← e3]; decide)]⟩
set_option maxRecDepth 20000 in
theorem c_X7_find {σ : ab_S} {g a q : Int} {h : Int → Int} {we : List (Int × Int)} (hg : kd_ g 7 4) (ha : kd_ a 10 6) (hq : kd_ q 3 3) (hh : ∀ m : Int, 0 ≤ m → m < 6 → 0 ≤ h m ∧ h m ≤ 40) (hah : ∀ m : Int, 0 ≤ m → m < 6 → σ a m = h m) (hR : RP σ q we) (hL : we.length ≤ 6) (hO : OKW we) (h0 : σ (g + 1) 0 = 0) (hp1 : a < g ∨ g + 3 < a) (hp2 : q + 2 < g ∨ g + 3 < q) : C2 YX7_find 1 σ [rf g, rf a, rf q] (PV fun σ' => WG σ' g h ∧ FT σ' g (cb h we 64) ∧ ∀ k i : Int, k ≠ g → k ≠ g + 1 → k ≠ g + 3 → σ' k i = σ k i) := by
  obtain ⟨k1, k2, k3⟩ := kd_wigs hg
  refine C2.of (by decide +kernel) (Nat.le_of_ble_eq_true rfl) ?_
  refine r_iconst (Y := YX7_find) dX7_find_0 ?_
  refine r_istore_n (Y := YX7_find) dX7_find_1 ?_
  suffices hloop : ∀ (k n : Nat) (τ : ab_S), n + k = 64 → 1 ≤ n → (∀ s : Int, 0 ≤ s → s < n → τ (g + 1) s = wt h s) → (∀ k i : Int, k ≠ g → k ≠ g + 1 → k ≠ g + 3 → τ k i = σ k i) → R2 YX7_find 1 τ 2 [some (rf g), some (rf a), some (rf q), some (iv n), none] [] (PV fun σ' => WG σ' g h ∧ FT σ' g (cb h we 64) ∧ ∀ k i : Int, k ≠ g → k ≠ g + 1 → k ≠ g + 3 → σ' k i = σ k i) from
    R2.weak (by repeat first | exact trivial | refine And.intro rfl ?_) (hloop 63 1 σ rfl (by omega) (fun s h1 h2 => by rw [show s = 0 by omega, h0, wt_zero]) (fun _ _ _ _ _ => rfl))
  intro k
  induction k with
  | zero =>
    intro n τ e1 e2 e3 hF
    have e4 : n = 64 := by omega
    subst e4
    refine r_iload_n (Y := YX7_find) dX7_find_2 rfl ?_
    refine r_bipush (Y := YX7_find) dX7_find_3 ?_
    refine r_icmp_ge (Y := YX7_find) (tgt := 41) dX7_find_5 (by decide) (fun c5 => ?_) (fun c5 => absurd c5 (by omega)) 
    refine r_aload_n (Y := YX7_find) dX7_find_41 rfl ?_
    refine r_iconst (Y := YX7_find) dX7_find_42 ?_
    refine r_putI (Y := YX7_find) (jz := 3) fp_X7_27 dX7_find_43 ?_
    refine r_iconst (Y := YX7_find) dX7_find_46 ?_
    refine r_istore_n (Y := YX7_find) dX7_find_47 ?_
    suffices hin : ∀ (k2 j : Nat) (υ : ab_S), j + k2 = 64 → WG υ g h → FT υ g (cb h we j) → (∀ k i : Int, k ≠ g → k ≠ g + 1 → k ≠ g + 3 → υ k i = σ k i) → R2 YX7_find 1 υ 48 [some (rf g), some (rf a), some (rf q), some (iv j), none] [] (PV fun σ' => WG σ' g h ∧ FT σ' g (cb h we 64) ∧ ∀ k i : Int, k ≠ g → k ≠ g + 1 → k ≠ g + 3 → σ' k i = σ k i) from
      R2.weak (by repeat first | exact trivial | refine And.intro rfl ?_) (hin 64 0 _ rfl (fun s h1 h2 => by rw [← e3 s h1 h2]; exact (by (try delta up); (try delta cpy); (try dsimp only); repeat (first | rw [if_pos (by omega)] | rw [if_neg (by omega)]); try (first | rfl | assumption | omega))) ⟨by (try delta up); (try delta cpy); (try dsimp only); repeat (first | rw [if_pos (by omega)] | rw [if_neg (by omega)]); try (first | rfl | assumption | omega), fun i v hv => by simp [cb] at hv⟩ (fun k i h1 h2 h3 => by rw [← hF k i h1 h2 h3]; exact (by (try delta up); (try delta cpy); (try dsimp only); repeat (first | rw [if_pos (by omega)] | rw [if_neg (by omega)]); try (first | rfl | assumption | omega))))
    intro k2
    induction k2 with
    | zero =>
      intro j υ e5 hG hFT hF2
      have e6 : j = 64 := by omega
      subst e6
      refine r_iload_n (Y := YX7_find) dX7_find_48 rfl ?_
      refine r_bipush (Y := YX7_find) dX7_find_49 ?_
      refine r_icmp_ge (Y := YX7_find) (tgt := 89) dX7_find_51 (by decide) (fun c51 => ?_) (fun c51 => absurd c51 (by omega)) 
      refine r_return (Y := YX7_find) dX7_find_89 ?_
      exact ⟨hG, hFT, hF2⟩
    | succ k2 ih2 =>
      intro j υ e5 hG hFT hF2
      have hRu : RP υ q we := hR.kept (fun k i _ _ => hF2 k i (by omega) (by omega) (by omega))
      have hcl := (cb_len h we j).1
      have hst : cb h we (j + 1) = if fitL h j we then cb h we j ++ [(j : Int)] else cb h we j := rfl
      refine r_iload_n (Y := YX7_find) dX7_find_48 rfl ?_
      refine r_bipush (Y := YX7_find) dX7_find_49 ?_
      refine r_icmp_ge (Y := YX7_find) (tgt := 89) dX7_find_51 (by decide) (fun c51 => absurd c51 (by omega)) (fun c51 => ?_) 
      refine r_aload_n (Y := YX7_find) dX7_find_54 rfl ?_
      refine r_iload_n (Y := YX7_find) dX7_find_55 rfl ?_
      refine r_aload_n (Y := YX7_find) dX7_find_56 rfl ?_
      refine r_iV2I (Y := YX7_find) mv_X7_31 dX7_find_57 (PI_zz (c_X7_fits hg hq hh hG hRu hL hO (by omega) (by omega))) (by assumption) (fun σ57 z57 h57 => ?_)
      obtain ⟨rfl, h57⟩ := h57
      refine r_if_eq (Y := YX7_find) (tgt := 83) dX7_find_60 (by decide) (fun c60 => ?_) (fun c60 => ?_) 
      · refine r_iinc (Y := YX7_find) dX7_find_83 rfl ?_
        refine r_goto (Y := YX7_find) (tgt := 48) dX7_find_86 (by decide) ?_
        first
        | (have hft : fitL h j we = true := by rcases h57 with h9 | h9; exact h9.2; omega
           rw [if_pos hft] at hst
           refine R2.weak (by repeat first | exact trivial | refine And.intro rfl ?_) (ih2 (j + 1) _ (by omega) (fun s h1 h2 => by rw [← hG s h1 h2]; exact (by (try delta up); (try delta cpy); (try dsimp only); repeat (first | rw [if_pos (by omega)] | rw [if_neg (by omega)]); try (first | rfl | assumption | omega))) ?_ (fun k i h1 h2 h3 => by rw [← hF2 k i h1 h2 h3]; exact (by (try delta up); (try delta cpy); (try dsimp only); repeat (first | rw [if_pos (by omega)] | rw [if_neg (by omega)]); try (first | rfl | assumption | omega))))
           rw [hst]
           refine ⟨by rw [List.length_append]; show _ = (((cb h we j).length + 1 : Nat) : Int); exact (by (try delta up); (try delta cpy); (try dsimp only); repeat (first | rw [if_pos (by omega)] | rw [if_neg (by omega)]); try (first | rfl | assumption | omega)), fun i v hv => ?_⟩
           by_cases hi : i < (cb h we j).length
           · rw [List.getElem?_append_left hi] at hv
             rw [← hFT.2 i v hv]
             exact (by (try delta up); (try delta cpy); (try dsimp only); repeat (first | rw [if_pos (by omega)] | rw [if_neg (by omega)]); try (first | rfl | assumption | omega))
           · rw [List.getElem?_append_right (by omega)] at hv
             have hz : i - (cb h we j).length < 1 := (List.getElem?_eq_some_iff.mp hv).1
             have hi2 : i = (cb h we j).length := by omega
             subst hi2
             rw [Nat.sub_self] at hv
             cases hv
             exact (by (try delta up); (try delta cpy); (try dsimp only); repeat (first | rw [if_pos (by omega)] | rw [if_neg (by omega)]); try (first | rfl | assumption | omega)))
        | (have hft : ¬ fitL h j we = true := by rcases h57 with h9 | h9; omega; exact h9.2
           rw [if_neg hft] at hst
           exact R2.weak (by repeat first | exact trivial | refine And.intro rfl ?_) (ih2 (j + 1) _ (by omega) hG (by rw [hst]; exact hFT) hF2))
      · refine r_aload_n (Y := YX7_find) dX7_find_63 rfl ?_
        refine r_getR (Y := YX7_find) (δz := 3) fl_X7_18 dX7_find_64 rfl rfl ?_
        refine r_aload_n (Y := YX7_find) dX7_find_67 rfl ?_
        refine r_getV (Y := YX7_find) (v := ((cb h we j).length : Int)) (jz := 3) fl_X7_27 dX7_find_68 (hFT.1) ?_
        refine r_iload_n (Y := YX7_find) dX7_find_71 rfl ?_
        refine r_iastore (Y := YX7_find) dX7_find_72 ?_
        refine r_aload_n (Y := YX7_find) dX7_find_73 rfl ?_
        refine r_dup (Y := YX7_find) dX7_find_74 ?_
        refine r_getV (Y := YX7_find) (v := ((cb h we j).length : Int)) (jz := 3) fl_X7_27 dX7_find_75 ((by rw [← hFT.1]; exact (by (try delta up); (try delta cpy); (try dsimp only); repeat (first | rw [if_pos (by omega)] | rw [if_neg (by omega)]); try (first | rfl | assumption | omega)))) ?_
        refine r_iconst (Y := YX7_find) dX7_find_78 ?_
        refine r_iadd (Y := YX7_find) dX7_find_79 ?_
        refine r_putI (Y := YX7_find) (jz := 3) fp_X7_27 dX7_find_80 ?_
        refine r_iinc (Y := YX7_find) dX7_find_83 rfl ?_
        refine r_goto (Y := YX7_find) (tgt := 48) dX7_find_86 (by decide) ?_
        first
        | (have hft : fitL h j we = true := by rcases h57 with h9 | h9; exact h9.2; omega
           rw [if_pos hft] at hst
           refine R2.weak (by repeat first | exact trivial | refine And.intro rfl ?_) (ih2 (j + 1) _ (by omega) (fun s h1 h2 => by rw [← hG s h1 h2]; exact (by (try delta up); (try delta cpy); (try dsimp only); repeat (first | rw [if_pos (by omega)] | rw [if_neg (by omega)]); try (first | rfl | assumption | omega))) ?_ (fun k i h1 h2 h3 => by rw [← hF2 k i h1 h2 h3]; exact (by (try delta up); (try delta cpy); (try dsimp only); repeat (first | rw [if_pos (by omega)] | rw [if_neg (by omega)]); try (first | rfl | assumption | omega))))
           rw [hst]
           refine ⟨by rw [List.length_append]; show _ = (((cb h we j).length + 1 : Nat) : Int); exact (by (try delta up); (try delta cpy); (try dsimp only); repeat (first | rw [if_pos (by omega)] | rw [if_neg (by omega)]); try (first | rfl | assumption | omega)), fun i v hv => ?_⟩
           by_cases hi : i < (cb h we j).length
           · rw [List.getElem?_append_left hi] at hv
             rw [← hFT.2 i v hv]
             exact (by (try delta up); (try delta cpy); (try dsimp only); repeat (first | rw [if_pos (by omega)] | rw [if_neg (by omega)]); try (first | rfl | assumption | omega))
           · rw [List.getElem?_append_right (by omega)] at hv
             have hz : i - (cb h we j).length < 1 := (List.getElem?_eq_some_iff.mp hv).1
             have hi2 : i = (cb h we j).length := by omega
             subst hi2
             rw [Nat.sub_self] at hv
             cases hv
             exact (by (try delta up); (try delta cpy); (try dsimp only); repeat (first | rw [if_pos (by omega)] | rw [if_neg (by omega)]); try (first | rfl | assumption | omega)))
        | (have hft : ¬ fitL h j we = true := by rcases h57 with h9 | h9; omega; exact h9.2
           rw [if_neg hft] at hst
           exact R2.weak (by repeat first | exact trivial | refine And.intro rfl ?_) (ih2 (j + 1) _ (by omega) hG (by rw [hst]; exact hFT) hF2))
  | succ k ih =>
    intro n τ e1 e2 e3 hF
    obtain ⟨a1, a2, a3⟩ := wt_low (h := h) (s := n) e2 (by omega)
    have hhn := hh (tz6 n) a2.1 a2.2
    refine r_iload_n (Y := YX7_find) dX7_find_2 rfl ?_
    refine r_bipush (Y := YX7_find) dX7_find_3 ?_
    refine r_icmp_ge (Y := YX7_find) (tgt := 41) dX7_find_5 (by decide) (fun c5 => absurd c5 (by omega)) (fun c5 => ?_) 
    refine r_iload_n (Y := YX7_find) dX7_find_8 rfl ?_
    refine r_iS1I (Y := YX7_find) ms_X7_21 dX7_find_9 (c_J6_numberOfTrailingZeros_0f7a4 _ _ (by omega) (by omega)) (fun σ9 z9 h9 => ?_)
    obtain ⟨rfl, rfl⟩ := h9
    refine r_istore (Y := YX7_find) dX7_find_12 ?_
    refine r_aload_n (Y := YX7_find) dX7_find_14 rfl ?_
    refine r_getR (Y := YX7_find) (δz := 1) fl_X7_11 dX7_find_15 rfl rfl ?_
    refine r_iload_n (Y := YX7_find) dX7_find_18 rfl ?_
    refine r_aload_n (Y := YX7_find) dX7_find_19 rfl ?_
    refine r_getR (Y := YX7_find) (δz := 1) fl_X7_11 dX7_find_20 rfl rfl ?_
    refine r_iload_n (Y := YX7_find) dX7_find_23 rfl ?_
    refine r_iload_n (Y := YX7_find) dX7_find_24 rfl ?_
    refine r_iconst (Y := YX7_find) dX7_find_25 ?_
    refine r_isub (Y := YX7_find) dX7_find_26 ?_
    refine r_iand (Y := YX7_find) dX7_find_27 ?_
    refine r_iaV (Y := YX7_find) (v := wt h (ban n ((n : Int) - 1))) dX7_find_28 (e3 _ a1.1 a1.2) ?_
    refine r_aload_n (Y := YX7_find) dX7_find_29 rfl ?_
    refine r_iload (Y := YX7_find) dX7_find_30 rfl ?_
    refine r_iaV (Y := YX7_find) (v := h (tz6 n)) dX7_find_32 ((by rw [hF a _ (by omega) (by omega) (by omega)]; exact hah _ a2.1 a2.2)) ?_
    refine r_iadd (Y := YX7_find) dX7_find_33 ?_
    refine r_iastore (Y := YX7_find) dX7_find_34 ?_
    refine r_iinc (Y := YX7_find) dX7_find_35 rfl ?_
    refine r_goto (Y := YX7_find) (tgt := 2) dX7_find_38 (by decide) ?_
    refine R2.weak (by repeat first | exact trivial | refine And.intro rfl ?_) (ih (n + 1) _ (by omega) (by omega) (fun s h1 h2 => ?_) (fun k i h1 h2 h3 => by rw [← hF k i h1 h2 h3]; exact (by (try delta up); (try delta cpy); (try dsimp only); repeat (first | rw [if_pos (by omega)] | rw [if_neg (by omega)]); try (first | rfl | assumption | omega))))
    by_cases e : s = n
    · subst e; rw [up_same]; exact a3.symm
    · rw [up_ne (by omega)]; exact e3 s h1 (by omega)
set_option maxRecDepth 20000 in
theorem c_X7_inEach {σ : ab_S} {g : Int} {F : List Int} (hg : kd_ g 7 4) (hR : FT σ g F) (hL : F.length ≤ 64) : C2 YX7_inEach 0 σ [rf g] (PI fun σ' z => σ' = σ ∧ z = eachL 63 F) := by
  obtain ⟨k1, k2, k3⟩ := kd_wigs hg
  refine C2.of (by decide +kernel) (Nat.le_of_ble_eq_true rfl) ?_
  refine r_bipush (Y := YX7_inEach) dX7_inEach_0 ?_
  refine r_istore_n (Y := YX7_inEach) dX7_inEach_2 ?_
  refine r_iconst (Y := YX7_inEach) dX7_inEach_3 ?_
  refine r_istore_n (Y := YX7_inEach) dX7_inEach_4 ?_
  suffices hloop : ∀ (k i : Nat) (x : Int), i + k = F.length → eachL x (F.drop i) = eachL 63 F → R2 YX7_inEach 0 σ 5 [some (rf g), some (iv x), some (iv i)] [] (PI fun σ' z => σ' = σ ∧ z = eachL 63 F) from
    R2.weak (by repeat first | exact trivial | refine And.intro rfl ?_) (hloop F.length 0 63 (by omega) (by rw [List.drop_zero]))
  intro k
  induction k with
  | zero =>
    intro i x e1 e2
    rw [dropI_end (by omega)] at e2
    have e3 : x = eachL 63 F := e2
    refine r_iload_n (Y := YX7_inEach) dX7_inEach_5 rfl ?_
    refine r_aload_n (Y := YX7_inEach) dX7_inEach_6 rfl ?_
    refine r_getV (Y := YX7_inEach) (v := (F.length : Int)) (jz := 3) fl_X7_27 dX7_inEach_7 (hR.1) ?_
    refine r_icmp_ge (Y := YX7_inEach) (tgt := 28) dX7_inEach_10 (by decide) (fun c10 => ?_) (fun c10 => absurd c10 (by omega)) 
    refine r_iload_n (Y := YX7_inEach) dX7_inEach_28 rfl ?_
    refine r_ireturn (Y := YX7_inEach) dX7_inEach_29 ?_
    exact ⟨rfl, by rw [e3]⟩
  | succ k ih =>
    intro i x e1 e2
    obtain ⟨v, hv, hm⟩ := getI_some (L := F) (i := i) (by omega)
    rw [dropI_cons hv] at e2
    refine r_iload_n (Y := YX7_inEach) dX7_inEach_5 rfl ?_
    refine r_aload_n (Y := YX7_inEach) dX7_inEach_6 rfl ?_
    refine r_getV (Y := YX7_inEach) (v := (F.length : Int)) (jz := 3) fl_X7_27 dX7_inEach_7 (hR.1) ?_
    refine r_icmp_ge (Y := YX7_inEach) (tgt := 28) dX7_inEach_10 (by decide) (fun c10 => absurd c10 (by omega)) (fun c10 => ?_) 
    refine r_iload_n (Y := YX7_inEach) dX7_inEach_13 rfl ?_
    refine r_aload_n (Y := YX7_inEach) dX7_inEach_14 rfl ?_
    refine r_getR (Y := YX7_inEach) (δz := 3) fl_X7_18 dX7_inEach_15 rfl rfl ?_
    refine r_iload_n (Y := YX7_inEach) dX7_inEach_18 rfl ?_
    refine r_iaV (Y := YX7_inEach) (v := v) dX7_inEach_19 (hR.2 i v hv) ?_
    refine r_iand (Y := YX7_inEach) dX7_inEach_20 ?_
    refine r_istore_n (Y := YX7_inEach) dX7_inEach_21 ?_
    refine r_iinc (Y := YX7_inEach) dX7_inEach_22 rfl ?_
    refine r_goto (Y := YX7_inEach) (tgt := 5) dX7_inEach_25 (by decide) ?_
    exact R2.weak (by repeat first | exact trivial | refine And.intro rfl ?_) (ih (i + 1) _ (by omega) e2)
set_option maxRecDepth 20000 in
theorem c_X7_inNone {σ : ab_S} {g : Int} {F : List Int} (hg : kd_ g 7 4) (hR : FT σ g F) (hL : F.length ≤ 64) : C2 YX7_inNone 0 σ [rf g] (PI fun σ' z => σ' = σ ∧ z = ban 63 (bxo (someL 0 F) (-1))) := by
  obtain ⟨k1, k2, k3⟩ := kd_wigs hg
  refine C2.of (by decide +kernel) (Nat.le_of_ble_eq_true rfl) ?_
  refine r_iconst (Y := YX7_inNone) dX7_inNone_0 ?_
  refine r_istore_n (Y := YX7_inNone) dX7_inNone_1 ?_
  refine r_iconst (Y := YX7_inNone) dX7_inNone_2 ?_
  refine r_istore_n (Y := YX7_inNone) dX7_inNone_3 ?_
  suffices hloop : ∀ (k i : Nat) (x : Int), i + k = F.length → someL x (F.drop i) = someL 0 F → R2 YX7_inNone 0 σ 4 [some (rf g), some (iv x), some (iv i)] [] (PI fun σ' z => σ' = σ ∧ z = ban 63 (bxo (someL 0 F) (-1))) from
    R2.weak (by repeat first | exact trivial | refine And.intro rfl ?_) (hloop F.length 0 0 (by omega) (by rw [List.drop_zero]))
  intro k
  induction k with
  | zero =>
    intro i x e1 e2
    rw [dropI_end (by omega)] at e2
    have e3 : x = someL 0 F := e2
    refine r_iload_n (Y := YX7_inNone) dX7_inNone_4 rfl ?_
    refine r_aload_n (Y := YX7_inNone) dX7_inNone_5 rfl ?_
    refine r_getV (Y := YX7_inNone) (v := (F.length : Int)) (jz := 3) fl_X7_27 dX7_inNone_6 (hR.1) ?_
    refine r_icmp_ge (Y := YX7_inNone) (tgt := 27) dX7_inNone_9 (by decide) (fun c9 => ?_) (fun c9 => absurd c9 (by omega)) 
    refine r_bipush (Y := YX7_inNone) dX7_inNone_27 ?_
    refine r_iload_n (Y := YX7_inNone) dX7_inNone_29 rfl ?_
    refine r_iconst (Y := YX7_inNone) dX7_inNone_30 ?_
    refine r_ixor (Y := YX7_inNone) dX7_inNone_31 ?_
    refine r_iand (Y := YX7_inNone) dX7_inNone_32 ?_
    refine r_ireturn (Y := YX7_inNone) dX7_inNone_33 ?_
    exact ⟨rfl, by rw [e3]⟩
  | succ k ih =>
    intro i x e1 e2
    obtain ⟨v, hv, hm⟩ := getI_some (L := F) (i := i) (by omega)
    rw [dropI_cons hv] at e2
    refine r_iload_n (Y := YX7_inNone) dX7_inNone_4 rfl ?_
    refine r_aload_n (Y := YX7_inNone) dX7_inNone_5 rfl ?_
    refine r_getV (Y := YX7_inNone) (v := (F.length : Int)) (jz := 3) fl_X7_27 dX7_inNone_6 (hR.1) ?_
    refine r_icmp_ge (Y := YX7_inNone) (tgt := 27) dX7_inNone_9 (by decide) (fun c9 => absurd c9 (by omega)) (fun c9 => ?_) 
    refine r_iload_n (Y := YX7_inNone) dX7_inNone_12 rfl ?_
    refine r_aload_n (Y := YX7_inNone) dX7_inNone_13 rfl ?_
    refine r_getR (Y := YX7_inNone) (δz := 3) fl_X7_18 dX7_inNone_14 rfl rfl ?_
    refine r_iload_n (Y := YX7_inNone) dX7_inNone_17 rfl ?_
    refine r_iaV (Y := YX7_inNone) (v := v) dX7_inNone_18 (hR.2 i v hv) ?_
    refine r_ior (Y := YX7_inNone) dX7_inNone_19 ?_
    refine r_istore_n (Y := YX7_inNone) dX7_inNone_20 ?_
    refine r_iinc (Y := YX7_inNone) dX7_inNone_21 rfl ?_
    refine r_goto (Y := YX7_inNone) (tgt := 4) dX7_inNone_24 (by decide) ?_
    exact R2.weak (by repeat first | exact trivial | refine And.intro rfl ?_) (ih (i + 1) _ (by omega) e2)
set_option maxRecDepth 20000 in
theorem c_X7_mostAlike {σ : ab_S} {g : Int} {F : List Int} {h : Int → Int} (hg : kd_ g 7 4) (hh : ∀ m : Int, 0 ≤ m → m < 6 → 0 ≤ h m ∧ h m ≤ 40) (hG : WG σ g h) (hR : FT σ g F) (hZ : ZA σ g) (hL : F.length ≤ 64) (hv : ∀ v ∈ F, 0 ≤ v ∧ v < 64) {s : Int} (hs1 : 0 ≤ s) (hs2 : s < 64) : C2 YX7_mostAlike 1 σ [rf g, iv s] (PI fun σ' z => z = almA h s F ∧ ZA σ' g ∧ ∀ k i : Int, k ≠ g + 2 → σ' k i = σ k i) := by
  obtain ⟨k1, k2, k3⟩ := kd_wigs hg
  refine C2.of (by decide +kernel) (Nat.le_of_ble_eq_true rfl) ?_
  refine r_iconst (Y := YX7_mostAlike) dX7_mostAlike_0 ?_
  refine r_istore_n (Y := YX7_mostAlike) dX7_mostAlike_1 ?_
  refine r_iconst (Y := YX7_mostAlike) dX7_mostAlike_2 ?_
  refine r_istore_n (Y := YX7_mostAlike) dX7_mostAlike_3 ?_
  suffices hloop : ∀ (k i : Nat) (mo : Int) (c : Int → Int) (τ : ab_S), i + k = F.length → 0 ≤ mo → mo ≤ i → (∀ k, 0 ≤ c k ∧ c k ≤ i) → (∀ k : Int, 0 ≤ k → k < 241 → τ (g + 2) k = c k) → (∀ k : Int, 0 ≤ k → k < 241 → τ (g + 2) k ≠ 0 → ∃ (j : Nat) (v : Int), F[j]? = some v ∧ k = wt h (andn s v)) → alm h s (F.drop i) c mo = almA h s F → (∀ k i : Int, k ≠ g + 2 → τ k i = σ k i) → R2 YX7_mostAlike 1 τ 4 [some (rf g), some (iv s), some (iv mo), some (iv i), none] [] (PI fun σ' z => z = almA h s F ∧ ZA σ' g ∧ ∀ k i : Int, k ≠ g + 2 → σ' k i = σ k i) from
    R2.weak (by repeat first | exact trivial | refine And.intro rfl ?_) (hloop F.length 0 0 (fun _ => 0) σ (by omega) (by omega) (by omega) (fun _ => by omega) hZ (fun k h1 h2 h3 => absurd (hZ k h1 h2) h3) (by rw [List.drop_zero]; rfl) (fun _ _ _ => rfl))
  intro k
  induction k with
  | zero =>
    intro i mo c τ e1 e2 e3 e4 e5 e6 e7 hF
    rw [dropI_end (by omega)] at e7
    have e8 : mo = almA h s F := e7
    have hRt : FT τ g F := ⟨by rw [hF _ _ (by omega)]; exact hR.1, fun j v hj => by rw [hF _ _ (by omega)]; exact hR.2 j v hj⟩
    refine r_iload_n (Y := YX7_mostAlike) dX7_mostAlike_4 rfl ?_
    refine r_aload_n (Y := YX7_mostAlike) dX7_mostAlike_5 rfl ?_
    refine r_getV (Y := YX7_mostAlike) (v := (F.length : Int)) (jz := 3) fl_X7_27 dX7_mostAlike_6 (hRt.1) ?_
    refine r_icmp_ge (Y := YX7_mostAlike) (tgt := 58) dX7_mostAlike_9 (by decide) (fun c9 => ?_) (fun c9 => absurd c9 (by omega)) 
    refine r_iconst (Y := YX7_mostAlike) dX7_mostAlike_58 ?_
    refine r_istore_n (Y := YX7_mostAlike) dX7_mostAlike_59 ?_
    suffices hin : ∀ (k2 j : Nat) (υ : ab_S), j + k2 = F.length → (∀ k : Int, 0 ≤ k → k < 241 → υ (g + 2) k ≠ 0 → ∃ (j2 : Nat) (v : Int), j ≤ j2 ∧ F[j2]? = some v ∧ k = wt h (andn s v)) → (∀ k i : Int, k ≠ g + 2 → υ k i = σ k i) → R2 YX7_mostAlike 1 υ 60 [some (rf g), some (iv s), some (iv mo), some (iv j), none] [] (PI fun σ' z => z = almA h s F ∧ ZA σ' g ∧ ∀ k i : Int, k ≠ g + 2 → σ' k i = σ k i) from
      R2.weak (by repeat first | exact trivial | refine And.intro rfl ?_) (hin F.length 0 τ (by omega) (fun k h1 h2 h3 => by obtain ⟨j, v, h4, h5⟩ := e6 k h1 h2 h3; exact ⟨j, v, by omega, h4, h5⟩) hF)
    intro k2
    induction k2 with
    | zero =>
      intro j υ e9 e10 hF2
      have hRu : FT υ g F := ⟨by rw [hF2 _ _ (by omega)]; exact hR.1, fun j v hj => by rw [hF2 _ _ (by omega)]; exact hR.2 j v hj⟩
      refine r_iload_n (Y := YX7_mostAlike) dX7_mostAlike_60 rfl ?_
      refine r_aload_n (Y := YX7_mostAlike) dX7_mostAlike_61 rfl ?_
      refine r_getV (Y := YX7_mostAlike) (v := (F.length : Int)) (jz := 3) fl_X7_27 dX7_mostAlike_62 (hRu.1) ?_
      refine r_icmp_ge (Y := YX7_mostAlike) (tgt := 95) dX7_mostAlike_65 (by decide) (fun c65 => ?_) (fun c65 => absurd c65 (by omega)) 
      refine r_iload_n (Y := YX7_mostAlike) dX7_mostAlike_95 rfl ?_
      refine r_ireturn (Y := YX7_mostAlike) dX7_mostAlike_96 ?_
      refine ⟨e8, fun k h1 h2 => ?_, hF2⟩
      apply Decidable.byContradiction
      intro h3
      obtain ⟨j2, v, h4, h5, h6⟩ := e10 k h1 h2 h3
      have := (List.getElem?_eq_some_iff.mp h5).1
      omega
    | succ k2 ih2 =>
      intro j υ e9 e10 hF2
      have hRu : FT υ g F := ⟨by rw [hF2 _ _ (by omega)]; exact hR.1, fun j v hj => by rw [hF2 _ _ (by omega)]; exact hR.2 j v hj⟩
      obtain ⟨v, hv9, hm⟩ := getI_some (L := F) (i := j) (by omega)
      have hvb := hv v hm
      have hab := andn_bd (x := s) (w := v) hs1 hs2 hvb.1 hvb.2
      have hwb := wt_bd (s := andn s v) hh
      have hwv : υ (g + 1) (ban s (bxo v (-1))) = wt h (andn s v) := by rw [hF2 _ _ (by omega)]; exact hG _ hab.1 hab.2
      refine r_iload_n (Y := YX7_mostAlike) dX7_mostAlike_60 rfl ?_
      refine r_aload_n (Y := YX7_mostAlike) dX7_mostAlike_61 rfl ?_
      refine r_getV (Y := YX7_mostAlike) (v := (F.length : Int)) (jz := 3) fl_X7_27 dX7_mostAlike_62 (hRu.1) ?_
      refine r_icmp_ge (Y := YX7_mostAlike) (tgt := 95) dX7_mostAlike_65 (by decide) (fun c65 => absurd c65 (by omega)) (fun c65 => ?_) 
      refine r_aload_n (Y := YX7_mostAlike) dX7_mostAlike_68 rfl ?_
      refine r_getR (Y := YX7_mostAlike) (δz := 2) fl_X7_15 dX7_mostAlike_69 rfl rfl ?_
      refine r_aload_n (Y := YX7_mostAlike) dX7_mostAlike_72 rfl ?_
      refine r_getR (Y := YX7_mostAlike) (δz := 1) fl_X7_11 dX7_mostAlike_73 rfl rfl ?_
      refine r_iload_n (Y := YX7_mostAlike) dX7_mostAlike_76 rfl ?_
      refine r_aload_n (Y := YX7_mostAlike) dX7_mostAlike_77 rfl ?_
      refine r_getR (Y := YX7_mostAlike) (δz := 3) fl_X7_18 dX7_mostAlike_78 rfl rfl ?_
      refine r_iload_n (Y := YX7_mostAlike) dX7_mostAlike_81 rfl ?_
      refine r_iaV (Y := YX7_mostAlike) (v := v) dX7_mostAlike_82 (hRu.2 j v hv9) ?_
      refine r_iconst (Y := YX7_mostAlike) dX7_mostAlike_83 ?_
      refine r_ixor (Y := YX7_mostAlike) dX7_mostAlike_84 ?_
      refine r_iand (Y := YX7_mostAlike) dX7_mostAlike_85 ?_
      change R2 _ _ _ _ _ (iv (andn s v) :: _) _
      refine r_iaV (Y := YX7_mostAlike) (v := wt h (andn s v)) dX7_mostAlike_86 (hwv) ?_
      refine r_iconst (Y := YX7_mostAlike) dX7_mostAlike_87 ?_
      refine r_iastore (Y := YX7_mostAlike) dX7_mostAlike_88 ?_
      refine r_iinc (Y := YX7_mostAlike) dX7_mostAlike_89 rfl ?_
      refine r_goto (Y := YX7_mostAlike) (tgt := 60) dX7_mostAlike_92 (by decide) ?_
      refine R2.weak (by repeat first | exact trivial | refine And.intro rfl ?_) (ih2 (j + 1) _ (by omega) (fun k h1 h2 h3 => ?_) (fun k i h9 => by rw [← hF2 k i h9]; exact (by (try delta up); (try delta cpy); (try dsimp only); repeat (first | rw [if_pos (by omega)] | rw [if_neg (by omega)]); try (first | rfl | assumption | omega))))
      by_cases ek : k = wt h (andn s v)
      · subst ek; rw [up_same] at h3; exact absurd rfl h3
      · rw [up_ne (by omega)] at h3
        obtain ⟨j2, v2, h4, h5, h6⟩ := e10 k h1 h2 h3
        by_cases ej : j2 = j
        · subst ej; rw [hv9] at h5; cases h5; exact absurd h6 ek
        · exact ⟨j2, v2, by omega, h5, h6⟩
  | succ k ih =>
    intro i mo c τ e1 e2 e3 e4 e5 e6 e7 hF
    have hRt : FT τ g F := ⟨by rw [hF _ _ (by omega)]; exact hR.1, fun j v hj => by rw [hF _ _ (by omega)]; exact hR.2 j v hj⟩
    obtain ⟨v, hv9, hm⟩ := getI_some (L := F) (i := i) (by omega)
    have hvb := hv v hm
    have hab := andn_bd (x := s) (w := v) hs1 hs2 hvb.1 hvb.2
    have hwb := wt_bd (s := andn s v) hh
    have hwv : τ (g + 1) (ban s (bxo v (-1))) = wt h (andn s v) := by rw [hF _ _ (by omega)]; exact hG _ hab.1 hab.2
    have hcb := e4 (wt h (andn s v))
    rw [dropI_cons hv9] at e7
    refine r_iload_n (Y := YX7_mostAlike) dX7_mostAlike_4 rfl ?_
    refine r_aload_n (Y := YX7_mostAlike) dX7_mostAlike_5 rfl ?_
    refine r_getV (Y := YX7_mostAlike) (v := (F.length : Int)) (jz := 3) fl_X7_27 dX7_mostAlike_6 (hRt.1) ?_
    refine r_icmp_ge (Y := YX7_mostAlike) (tgt := 58) dX7_mostAlike_9 (by decide) (fun c9 => absurd c9 (by omega)) (fun c9 => ?_) 
    refine r_aload_n (Y := YX7_mostAlike) dX7_mostAlike_12 rfl ?_
    refine r_getR (Y := YX7_mostAlike) (δz := 1) fl_X7_11 dX7_mostAlike_13 rfl rfl ?_
    refine r_iload_n (Y := YX7_mostAlike) dX7_mostAlike_16 rfl ?_
    refine r_aload_n (Y := YX7_mostAlike) dX7_mostAlike_17 rfl ?_
    refine r_getR (Y := YX7_mostAlike) (δz := 3) fl_X7_18 dX7_mostAlike_18 rfl rfl ?_
    refine r_iload_n (Y := YX7_mostAlike) dX7_mostAlike_21 rfl ?_
    refine r_iaV (Y := YX7_mostAlike) (v := v) dX7_mostAlike_22 (hRt.2 i v hv9) ?_
    refine r_iconst (Y := YX7_mostAlike) dX7_mostAlike_23 ?_
    refine r_ixor (Y := YX7_mostAlike) dX7_mostAlike_24 ?_
    refine r_iand (Y := YX7_mostAlike) dX7_mostAlike_25 ?_
    change R2 _ _ _ _ _ (iv (andn s v) :: _) _
    refine r_iaV (Y := YX7_mostAlike) (v := wt h (andn s v)) dX7_mostAlike_26 (hwv) ?_
    refine r_istore (Y := YX7_mostAlike) dX7_mostAlike_27 ?_
    refine r_aload_n (Y := YX7_mostAlike) dX7_mostAlike_29 rfl ?_
    refine r_getR (Y := YX7_mostAlike) (δz := 2) fl_X7_15 dX7_mostAlike_30 rfl rfl ?_
    refine r_iload (Y := YX7_mostAlike) dX7_mostAlike_33 rfl ?_
    refine r_dup2 (Y := YX7_mostAlike) dX7_mostAlike_35 ?_
    refine r_iaV (Y := YX7_mostAlike) (v := c (wt h (andn s v))) dX7_mostAlike_36 (e5 _ (by omega) (by omega)) ?_
    refine r_iconst (Y := YX7_mostAlike) dX7_mostAlike_37 ?_
    refine r_iadd (Y := YX7_mostAlike) dX7_mostAlike_38 ?_
    refine r_iastore (Y := YX7_mostAlike) dX7_mostAlike_39 ?_
    refine r_iload_n (Y := YX7_mostAlike) dX7_mostAlike_40 rfl ?_
    refine r_aload_n (Y := YX7_mostAlike) dX7_mostAlike_41 rfl ?_
    refine r_getR (Y := YX7_mostAlike) (δz := 2) fl_X7_15 dX7_mostAlike_42 rfl rfl ?_
    refine r_iload (Y := YX7_mostAlike) dX7_mostAlike_45 rfl ?_
    refine r_iaV (Y := YX7_mostAlike) (v := c (wt h (andn s v)) + 1) dX7_mostAlike_47 (up_same _ _ _ _) ?_
    refine r_iS2I (Y := YX7_mostAlike) ms_X7_47 dX7_mostAlike_48 (c_J9_max_7cf53 _ _ _ (by omega) (by omega) (by omega) (by omega)) (fun σ48 z48 h48 => ?_)
    obtain ⟨rfl, rfl⟩ := h48
    refine r_istore_n (Y := YX7_mostAlike) dX7_mostAlike_51 ?_
    refine r_iinc (Y := YX7_mostAlike) dX7_mostAlike_52 rfl ?_
    refine r_goto (Y := YX7_mostAlike) (tgt := 4) dX7_mostAlike_55 (by decide) ?_
    refine R2.weak (by repeat first | exact trivial | refine And.intro rfl ?_) (ih (i + 1) _ (fu c (wt h (andn s v)) (c (wt h (andn s v)) + 1)) _ (by omega) (by omega) (by omega) (fun k => ?_) (fun k h1 h2 => ?_) (fun k h1 h2 h3 => ?_) e7 (fun k i h9 => by rw [← hF k i h9]; exact (by (try delta up); (try delta cpy); (try dsimp only); repeat (first | rw [if_pos (by omega)] | rw [if_neg (by omega)]); try (first | rfl | assumption | omega))))
    · have := e4 k; unfold fu; split <;> omega
    · by_cases ek : k = wt h (andn s v)
      · subst ek; rw [up_same, fu_same]
      · rw [up_ne (by omega), fu_ne ek]; exact e5 k h1 h2
    · by_cases ek : k = wt h (andn s v)
      · exact ⟨i, v, hv9, ek⟩
      · rw [up_ne (by omega)] at h3; exact e6 k h1 h2 h3
theorem almA_bd {h : Int → Int} {s : Int} {F : List Int} (hL : F.length ≤ 64) : 0 ≤ almA h s F ∧ almA h s F ≤ 1000 := alm_bd (fun _ => by omega) (by omega) (by omega)
theorem askN_bd {h : Int → Int} {F : List Int} (hL : F.length ≤ 64) : ∀ n : Nat, 0 ≤ (askN h F n).2 ∧ (askN h F n).2 ≤ 1000
  | 0 => by show 0 ≤ (65 : Int) ∧ (65 : Int) ≤ 1000; omega
  | n + 1 => by
    have h1 := askN_bd (h := h) hL n
    have h2 := almA_bd (h := h) (s := ((n + 1 : Nat) : Int)) hL
    unfold askN
    split
    · exact h2
    · exact h1
set_option maxRecDepth 20000 in
theorem c_X7_bestToAsk {σ : ab_S} {g : Int} {F : List Int} {h : Int → Int} (hg : kd_ g 7 4) (hh : ∀ m : Int, 0 ≤ m → m < 6 → 0 ≤ h m ∧ h m ≤ 40) (hG : WG σ g h) (hR : FT σ g F) (hZ : ZA σ g) (hL : F.length ≤ 64) (hv : ∀ v ∈ F, 0 ≤ v ∧ v < 64) : C2 YX7_bestToAsk 2 σ [rf g] (PI fun σ' z => z = (askN h F 63).1 ∧ ZA σ' g ∧ ∀ k i : Int, k ≠ g + 2 → σ' k i = σ k i) := by
  obtain ⟨k1, k2, k3⟩ := kd_wigs hg
  refine C2.of (by decide +kernel) (Nat.le_of_ble_eq_true rfl) ?_
  refine r_iconst (Y := YX7_bestToAsk) dX7_bestToAsk_0 ?_
  refine r_istore_n (Y := YX7_bestToAsk) dX7_bestToAsk_1 ?_
  refine r_bipush (Y := YX7_bestToAsk) dX7_bestToAsk_2 ?_
  refine r_istore_n (Y := YX7_bestToAsk) dX7_bestToAsk_4 ?_
  refine r_iconst (Y := YX7_bestToAsk) dX7_bestToAsk_5 ?_
  refine r_istore_n (Y := YX7_bestToAsk) dX7_bestToAsk_6 ?_
  suffices hloop : ∀ (k n : Nat) (τ : ab_S), n + k = 63 → ZA τ g → (∀ k i : Int, k ≠ g + 2 → τ k i = σ k i) → R2 YX7_bestToAsk 2 τ 7 [some (rf g), some (iv (askN h F n).1), some (iv (askN h F n).2), some (iv ((n : Int) + 1)), none] [] (PI fun σ' z => z = (askN h F 63).1 ∧ ZA σ' g ∧ ∀ k i : Int, k ≠ g + 2 → σ' k i = σ k i) from
    R2.weak (by repeat first | exact trivial | refine And.intro rfl ?_) (hloop 63 0 σ rfl hZ (fun _ _ _ => rfl))
  intro k
  induction k with
  | zero =>
    intro n τ e1 e2 hF
    have e4 : n = 63 := by omega
    subst e4
    refine r_iload_n (Y := YX7_bestToAsk) dX7_bestToAsk_7 rfl ?_
    refine r_bipush (Y := YX7_bestToAsk) dX7_bestToAsk_8 ?_
    refine r_icmp_ge (Y := YX7_bestToAsk) (tgt := 37) dX7_bestToAsk_10 (by decide) (fun c10 => ?_) (fun c10 => absurd c10 (by omega)) 
    refine r_iload_n (Y := YX7_bestToAsk) dX7_bestToAsk_37 rfl ?_
    refine r_ireturn (Y := YX7_bestToAsk) dX7_bestToAsk_38 ?_
    exact ⟨rfl, e2, hF⟩
  | succ k ih =>
    intro n τ e1 e2 hF
    have hRt : FT τ g F := ⟨by rw [hF _ _ (by omega)]; exact hR.1, fun j v hj => by rw [hF _ _ (by omega)]; exact hR.2 j v hj⟩
    have hGt : WG τ g h := fun s h1 h2 => by rw [hF _ _ (by omega)]; exact hG s h1 h2
    have hab := almA_bd (h := h) (s := (n : Int) + 1) hL
    have hqb := askN_bd (h := h) hL n
    have hst : askN h F (n + 1) = if almA h ((n : Int) + 1) F < (askN h F n).2 then ((n : Int) + 1, almA h ((n : Int) + 1) F) else askN h F n := rfl
    have ih := ih (n + 1)
    rw [hst] at ih
    refine r_iload_n (Y := YX7_bestToAsk) dX7_bestToAsk_7 rfl ?_
    refine r_bipush (Y := YX7_bestToAsk) dX7_bestToAsk_8 ?_
    refine r_icmp_ge (Y := YX7_bestToAsk) (tgt := 37) dX7_bestToAsk_10 (by decide) (fun c10 => absurd c10 (by omega)) (fun c10 => ?_) 
    refine r_aload_n (Y := YX7_bestToAsk) dX7_bestToAsk_13 rfl ?_
    refine r_iload_n (Y := YX7_bestToAsk) dX7_bestToAsk_14 rfl ?_
    refine r_iV1I (Y := YX7_bestToAsk) mv_X7_44 dX7_bestToAsk_15 (c_X7_mostAlike hg hh hGt hRt e2 hL hv (by omega) (by omega)) (by assumption) (fun σ15 z15 h15 => ?_)
    obtain ⟨rfl, b1, b2⟩ := h15
    refine r_istore (Y := YX7_bestToAsk) dX7_bestToAsk_18 ?_
    refine r_iload (Y := YX7_bestToAsk) dX7_bestToAsk_20 rfl ?_
    refine r_iload_n (Y := YX7_bestToAsk) dX7_bestToAsk_22 rfl ?_
    refine r_icmp_ge (Y := YX7_bestToAsk) (tgt := 31) dX7_bestToAsk_23 (by decide) (fun c23 => ?_) (fun c23 => ?_) 
    · refine r_iinc (Y := YX7_bestToAsk) dX7_bestToAsk_31 rfl ?_
      refine r_goto (Y := YX7_bestToAsk) (tgt := 7) dX7_bestToAsk_34 (by decide) ?_
      first
      | (rw [if_pos (by omega)] at ih
         exact R2.weak (by repeat first | exact trivial | refine And.intro rfl ?_) (ih _ (by omega) b1 (fun k i h9 => by rw [b2 k i h9]; exact hF k i h9)))
      | (rw [if_neg (by omega)] at ih
         exact R2.weak (by repeat first | exact trivial | refine And.intro rfl ?_) (ih _ (by omega) b1 (fun k i h9 => by rw [b2 k i h9]; exact hF k i h9)))
    · refine r_iload (Y := YX7_bestToAsk) dX7_bestToAsk_26 rfl ?_
      refine r_istore_n (Y := YX7_bestToAsk) dX7_bestToAsk_28 ?_
      refine r_iload_n (Y := YX7_bestToAsk) dX7_bestToAsk_29 rfl ?_
      refine r_istore_n (Y := YX7_bestToAsk) dX7_bestToAsk_30 ?_
      refine r_iinc (Y := YX7_bestToAsk) dX7_bestToAsk_31 rfl ?_
      refine r_goto (Y := YX7_bestToAsk) (tgt := 7) dX7_bestToAsk_34 (by decide) ?_
      first
      | (rw [if_pos (by omega)] at ih
         exact R2.weak (by repeat first | exact trivial | refine And.intro rfl ?_) (ih _ (by omega) b1 (fun k i h9 => by rw [b2 k i h9]; exact hF k i h9)))
      | (rw [if_neg (by omega)] at ih
         exact R2.weak (by repeat first | exact trivial | refine And.intro rfl ?_) (ih _ (by omega) b1 (fun k i h9 => by rw [b2 k i h9]; exact hF k i h9)))
