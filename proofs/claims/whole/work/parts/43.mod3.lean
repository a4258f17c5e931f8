/-! the model: a week, a lock, what is borne -/
theorem RK.at {σ : ab_S} {m r : Int} {l : Lk} {L : List Lk} (h : RK σ m r (l :: L)) : σ (m + 16) (8 * r) = l.1 ∧ σ (m + 17) (8 * r) = l.2.1 ∧ σ (m + 18) (8 * r) = l.2.2 := by
  have := h.2 0 l rfl
  rw [show 8 * r + ((0 : Nat) : Int) = 8 * r by omega] at this
  exact this
theorem setRR (B : AB) (n : Int) (L1 L2 : List Lk) : setR (setR B n L1) n L2 = setR B n L2 := by
  unfold setR
  dsimp only
  congr 5
  funext j
  show (if j = n then L2 else (if j = n then L1 else aR B j)) = if j = n then L2 else aR B j
  split <;> rfl
theorem setWR (B : AB) (n : Int) (L : List Lk) (W : Int → Int) : setR (setW B W) n L = setW (setR B n L) W := rfl
theorem setWW (B : AB) (W V : Int → Int) : setW (setW B W) V = setW B V := rfl
theorem aR_set (B : AB) (n : Int) (L : List Lk) (W : Int → Int) : aR (setW (setR B n L) W) n = L := fu_same _ _ _
theorem aW_set (B : AB) (n : Int) (L : List Lk) (W : Int → Int) : aW (setW (setR B n L) W) = W := rfl
theorem lostL_zero : ∀ {L : List Lk} {j : Int}, (∀ l ∈ L, okL l) → lostL 0 L j = 0
  | [], _, _ => rfl
  | l :: r, j, h => by
    have h1 := h l List.mem_cons_self
    unfold okL at h1
    show (if l.2.1 ≤ 0 then _ else (if l.1 = j then (0 : Int) else 0)) = 0
    rw [if_neg (by omega)]
    split <;> rfl
/-- a rope is losing: so much is left to lose, so it stands -/
def LSq (x : Int) (B : AB) (n : Int) (left : Int) (L : List Lk) (W : Int → Int) : Prop := WL L ∧ 0 ≤ left ∧ left ≤ 1000 ∧ loseL left L = loseL x (aR B n) ∧ ∀ j, W j + lostL left L j = aW B j + lostL x (aR B n) j
theorem LSq.zero {x : Int} {B : AB} {n : Int} {L : List Lk} {W : Int → Int} (h : LSq x B n 0 L W) : setW (setR B n L) W = setW (setR B n (loseL x (aR B n))) (fun j => aW B j + lostL x (aR B n) j) := by
  obtain ⟨h1, _, _, h4, h5⟩ := h
  rw [loseL_zero h1.2] at h4
  have e : W = fun j => aW B j + lostL x (aR B n) j := funext (fun j => by have := h5 j; rw [lostL_zero h1.2] at this; omega)
  rw [h4, e]
theorem LSq.nil {x : Int} {B : AB} {n left : Int} {W : Int → Int} (h : LSq x B n left [] W) : setW (setR B n []) W = setW (setR B n (loseL x (aR B n))) (fun j => aW B j + lostL x (aR B n) j) := by
  obtain ⟨h1, _, _, h4, h5⟩ := h
  have e : W = fun j => aW B j + lostL x (aR B n) j := funext (fun j => by have h6 : W j + 0 = _ := h5 j; omega)
  rw [← h4, e]
  rfl
theorem LSq.all {x : Int} {B : AB} {n left : Int} {l : Lk} {L : List Lk} {W : Int → Int} (h : LSq x B n left (l :: L) W) (hl : l.2.1 ≤ left) : LSq x B n (left - l.2.1) L (fu W l.1 (W l.1 + l.2.1)) := by
  obtain ⟨h1, h2, h3, h4, h5⟩ := h
  have hok := h1.2 l List.mem_cons_self
  unfold okL at hok
  have hlen := h1.1
  rw [List.length_cons] at hlen
  refine ⟨⟨by omega, fun q hq => h1.2 q (List.mem_cons_of_mem _ hq)⟩, by omega, by omega, ?_, fun j => ?_⟩
  · rw [← h4]
    show _ = if l.2.1 ≤ left then loseL (left - l.2.1) L else _
    rw [if_pos hl]
  · rw [← h5 j]
    show _ = W j + (if l.2.1 ≤ left then (if l.1 = j then l.2.1 else 0) + lostL (left - l.2.1) L j else (if l.1 = j then left else 0))
    rw [if_pos hl]
    by_cases e : j = l.1
    · rw [e, fu_same, if_pos rfl]; omega
    · rw [fu_ne e, if_neg (fun h => e h.symm)]; omega
theorem LSq.part {x : Int} {B : AB} {n left : Int} {l : Lk} {L : List Lk} {W : Int → Int} (h : LSq x B n left (l :: L) W) (hl : left < l.2.1) : LSq x B n 0 ((l.1, l.2.1 - left, l.2.2) :: L) (fu W l.1 (W l.1 + left)) := by
  obtain ⟨h1, h2, h3, h4, h5⟩ := h
  have hok := h1.2 l List.mem_cons_self
  unfold okL at hok
  have hlen := h1.1
  rw [List.length_cons] at hlen
  have hall : ∀ q ∈ (l.1, l.2.1 - left, l.2.2) :: L, okL q := fun q hq => by
    rcases List.mem_cons.mp hq with hq | hq
    · subst hq; unfold okL; dsimp only; omega
    · exact h1.2 q (List.mem_cons_of_mem _ hq)
  refine ⟨⟨by rw [List.length_cons]; omega, hall⟩, by omega, by omega, ?_, fun j => ?_⟩
  · rw [← h4, loseL_zero hall]
    show _ = if l.2.1 ≤ left then loseL (left - l.2.1) L else _
    rw [if_neg (by omega)]
  · rw [← h5 j, lostL_zero hall]
    show _ = W j + (if l.2.1 ≤ left then (if l.1 = j then l.2.1 else 0) + lostL (left - l.2.1) L j else (if l.1 = j then left else 0))
    rw [if_neg (by omega)]
    by_cases e : j = l.1
    · rw [e, fu_same, if_pos rfl]; omega
    · rw [fu_ne e, if_neg (fun h => e h.symm)]; try omega
set_option maxRecDepth 20000 in
theorem c_X9_lose {σ : ab_S} {m : Int} (hm : kd_ m 9 37) {x : Int} {B : AB} (hM : MT σ m B) (hW : WA B) (hx1 : 0 ≤ x) (hx2 : x ≤ 1000) : C2 YX9_lose 1 σ [rf m, iv x] (PV fun σ' => MT σ' m (lsA x B) ∧ FM σ σ' m) := by
  obtain ⟨k1, k2, k3, k4, k5, k6, k7, k8, k9, k10, k11, k12, k13, k14, k15, k16, k17, k18, k19, k20, k21, k22, k23, k24, k25, k26⟩ := kd_model hm
  refine C2.of (by decide +kernel) (Nat.le_of_ble_eq_true rfl) ?_
  refine r_iconst (Y := YX9_lose) dX9_lose_0 ?_
  refine r_istore_n (Y := YX9_lose) dX9_lose_1 ?_
  suffices hloop : ∀ (k n : Nat) (τ : ab_S), n + k = 4 → MT τ m (lsN x B n) → FM σ τ m → R2 YX9_lose 1 τ 2 [some (rf m), some (iv x), some (iv n), none, none, none] [] (PV fun σ' => MT σ' m (lsA x B) ∧ FM σ σ' m) from
    R2.weak (by repeat first | exact trivial | refine And.intro rfl ?_) (hloop 4 0 σ rfl hM FM.rf)
  intro k
  induction k with
  | zero =>
    intro n τ e1 e2 hF
    have e3 : n = 4 := by omega
    subst e3
    refine r_iload_n (Y := YX9_lose) dX9_lose_2 rfl ?_
    refine r_iconst (Y := YX9_lose) dX9_lose_3 ?_
    refine r_icmp_ge (Y := YX9_lose) (tgt := 110) dX9_lose_4 (by decide) (fun c4 => ?_) (fun c4 => absurd c4 (by omega)) 
    refine r_return (Y := YX9_lose) dX9_lose_110 ?_
    exact ⟨e2, hF⟩
  | succ k ih =>
    intro n τ e1 e2 hF
    have hWB := WA_lsN (x := x) hW hx1 n (by omega)
    have ih := ih (n + 1)
    change ∀ τ : ab_S, _ → MT τ m (setW (setR (lsN x B n) n (loseL x (aR (lsN x B n) n))) (fun j => aW (lsN x B n) j + lostL x (aR (lsN x B n) n) j)) → _ at ih
    generalize lsN x B n = C at e2 hWB ih
    refine r_iload_n (Y := YX9_lose) dX9_lose_2 rfl ?_
    refine r_iconst (Y := YX9_lose) dX9_lose_3 ?_
    refine r_icmp_ge (Y := YX9_lose) (tgt := 110) dX9_lose_4 (by decide) (fun c4 => absurd c4 (by omega)) (fun c4 => ?_) 
    refine r_iload_n (Y := YX9_lose) dX9_lose_7 rfl ?_
    refine r_istore_n (Y := YX9_lose) dX9_lose_8 ?_
    suffices hin : ∀ (q : Nat) (L : List Lk) (left : Int) (W : Int → Int) (υ : ab_S), L.length + left.toNat ≤ q → LSq x C n left L W → MT υ m (setW (setR C n L) W) → FM σ υ m → R2 YX9_lose 1 υ 9 [some (rf m), some (iv x), some (iv n), some (iv left), none, none] [] (PV fun σ' => MT σ' m (lsA x B) ∧ FM σ σ' m) from by
      refine R2.weak (by repeat first | exact trivial | refine And.intro rfl ?_) (hin _ (aR C n) x (aW C) τ (Nat.le_refl _) ⟨hWB.2.2.2.1 n (by omega) (by omega), hx1, hx2, rfl, fun j => rfl⟩ ?_ hF)
      have e9 : setW (setR C n (aR C n)) (aW C) = C := by
        unfold setW setR
        dsimp only [aW, aR]
        have : fu (aR C) n (aR C n) = aR C := by
          funext j
          show (if j = n then aR C n else aR C j) = aR C j
          split
          · rename_i h; rw [h]
          · rfl
        have h2 : fu C.2.2.2.2.1 n (C.2.2.2.2.1 n) = C.2.2.2.2.1 := this
        rw [h2]
      rw [e9]
      exact e2
    intro q
    induction q with
    | zero =>
      intro L left W υ g1 g2 g3 hG
      have g4 : L = [] := List.eq_nil_of_length_eq_zero (by omega)
      subst g4
      have g5 := g2.2.1
      have g6 := g2.2.2.1
      have g7 : left = 0 := by omega
      have g8 := g2.nil
      rw [g8] at g3
      refine r_iload_n (Y := YX9_lose) dX9_lose_9 rfl ?_
      refine r_if_le (Y := YX9_lose) (tgt := 104) dX9_lose_10 (by decide) (fun c10 => ?_) (fun c10 => absurd c10 (by omega)) 
      refine r_iinc (Y := YX9_lose) dX9_lose_104 rfl ?_
      refine r_goto (Y := YX9_lose) (tgt := 2) dX9_lose_107 (by decide) ?_
      exact R2.weak (by repeat first | exact trivial | refine And.intro rfl ?_) (ih υ (by omega) g3 hG)
    | succ q ihq =>
      intro L left W υ g1 g2 g3 hG
      have g5 := g2.2.1
      have g6 := g2.2.2.1
      have hWS := hWB
      cases L with
      | nil =>
        have g8 := g2.nil
        have hcnt : υ (m + 19) n = 0 := by
          have := (g3.2.2.2.2.1 n (by omega) (by omega)).1
          rw [aR_set] at this
          exact this
        rw [g8] at g3
        refine r_iload_n (Y := YX9_lose) dX9_lose_9 rfl ?_
        refine r_if_le (Y := YX9_lose) (tgt := 104) dX9_lose_10 (by decide) (fun c10 => ?_) (fun c10 => ?_) 
        · refine r_iinc (Y := YX9_lose) dX9_lose_104 rfl ?_
          refine r_goto (Y := YX9_lose) (tgt := 2) dX9_lose_107 (by decide) ?_
          exact R2.weak (by repeat first | exact trivial | refine And.intro rfl ?_) (ih υ (by omega) g3 hG)
        · refine r_aload_n (Y := YX9_lose) dX9_lose_13 rfl ?_
          refine r_getR (Y := YX9_lose) (δz := 19) fl_X9_64 dX9_lose_14 rfl rfl ?_
          refine r_iload_n (Y := YX9_lose) dX9_lose_17 rfl ?_
          refine r_iaV (Y := YX9_lose) (v := 0) dX9_lose_18 (hcnt) ?_
          refine r_if_le (Y := YX9_lose) (tgt := 104) dX9_lose_19 (by decide) (fun c19 => ?_) (fun c19 => absurd c19 (by omega)) 
          refine r_iinc (Y := YX9_lose) dX9_lose_104 rfl ?_
          refine r_goto (Y := YX9_lose) (tgt := 2) dX9_lose_107 (by decide) ?_
          exact R2.weak (by repeat first | exact trivial | refine And.intro rfl ?_) (ih υ (by omega) g3 hG)
      | cons l L =>
        have hRQ := g3.2.2.2.2.1 n (by omega) (by omega)
        rw [aR_set] at hRQ
        have hRK : RK υ m n (l :: L) := hRQ
        obtain ⟨v1, v2, v3⟩ := hRK.at
        have hok := g2.1.2 l List.mem_cons_self
        have hlen := g2.1.1
        rw [List.length_cons] at hlen
        unfold okL at hok
        have hcnt : υ (m + 19) n = (L.length : Int) + 1 := by
          rw [hRK.1, List.length_cons]
          omega
        have hwv : υ (m + 15) l.1 = W l.1 := by
          have := g3.2.2.2.1 l.1 (by omega) (by omega)
          rwa [aW_set] at this
        rw [List.length_cons] at g1
        have hothers : ∀ {L2 : List Lk} {W2 : Int → Int} (r : Int), 0 ≤ r → r < 4 → r ≠ n → (aR (setW (setR C n L2) W2) r).length ≤ 8 := fun {L2 W2} r a b c => by
          show (fu (aR C) n L2 r).length ≤ 8
          rw [fu_ne c]
          exact (hWB.2.2.2.1 r a b).1
        /- the memory with so much lost of the first lock -/
        have key : ∀ lost : Int, MT (up (up υ (m + 15) l.1 (W l.1 + lost)) (m + 17) (8 * n) (l.2.1 - lost)) m (setW (setR C n ((l.1, l.2.1 - lost, l.2.2) :: L)) (fu W l.1 (W l.1 + lost))) ∧ RK (up (up υ (m + 15) l.1 (W l.1 + lost)) (m + 17) (8 * n) (l.2.1 - lost)) m n ((l.1, l.2.1 - lost, l.2.2) :: L) := by
          intro lost
          have hK : RK (up (up υ (m + 15) l.1 (W l.1 + lost)) (m + 17) (8 * n) (l.2.1 - lost)) m n ((l.1, l.2.1 - lost, l.2.2) :: L) := by
            refine ⟨?_, fun i p hp => ?_⟩
            · rw [List.length_cons]
              refine Eq.trans ?_ (hcnt.trans (by omega))
              exact (by (try delta up); (try delta cpy); (try dsimp only); repeat (first | rw [if_pos (by omega)] | rw [if_neg (by omega)]); try (first | rfl | assumption | omega))
            · cases i with
              | zero =>
                have e : (l.1, l.2.1 - lost, l.2.2) = p := Option.some.inj hp
                subst e
                rw [show 8 * (n : Int) + ((0 : Nat) : Int) = 8 * n by omega]
                refine ⟨?_, ?_, ?_⟩
                · rw [← v1]; exact (by (try delta up); (try delta cpy); (try dsimp only); repeat (first | rw [if_pos (by omega)] | rw [if_neg (by omega)]); try (first | rfl | assumption | omega))
                · exact (by (try delta up); (try delta cpy); (try dsimp only); repeat (first | rw [if_pos (by omega)] | rw [if_neg (by omega)]); try (first | rfl | assumption | omega))
                · rw [← v3]; exact (by (try delta up); (try delta cpy); (try dsimp only); repeat (first | rw [if_pos (by omega)] | rw [if_neg (by omega)]); try (first | rfl | assumption | omega))
              | succ i =>
                have h3 := hRK.2 (i + 1) p hp
                rw [← h3.1, ← h3.2.1, ← h3.2.2]
                exact ⟨by (try delta up); (try delta cpy); (try dsimp only); repeat (first | rw [if_pos (by omega)] | rw [if_neg (by omega)]); try (first | rfl | assumption | omega), by (try delta up); (try delta cpy); (try dsimp only); repeat (first | rw [if_pos (by omega)] | rw [if_neg (by omega)]); try (first | rfl | assumption | omega), by (try delta up); (try delta cpy); (try dsimp only); repeat (first | rw [if_pos (by omega)] | rw [if_neg (by omega)]); try (first | rfl | assumption | omega)⟩
          refine ⟨?_, hK⟩
          have s1 : MT (up υ (m + 15) l.1 (W l.1 + lost)) m (setW (setW (setR C n (l :: L)) W) (fu W l.1 (W l.1 + lost))) := by
            refine g3.worn (fun j a b => ?_) (fun k i a b => by (try delta up); (try delta cpy); (try dsimp only); repeat (first | rw [if_pos (by omega)] | rw [if_neg (by omega)]); try (first | rfl | assumption | omega))
            by_cases e : j = l.1
            · subst e; rw [fu_same]; exact up_same _ _ _ _
            · rw [fu_ne e]
              have := g3.2.2.2.1 j a b
              rw [aW_set] at this
              rw [← this]
              exact (by (try delta up); (try delta cpy); (try dsimp only); repeat (first | rw [if_pos (by omega)] | rw [if_neg (by omega)]); try (first | rfl | assumption | omega))
          rw [setWW] at s1
          have s2 := s1.rope (τ := up (up υ (m + 15) l.1 (W l.1 + lost)) (m + 17) (8 * n) (l.2.1 - lost)) hothers (n := n) (by omega) (by omega) hK (fun k i a b c => by (try delta up); (try delta cpy); (try dsimp only); repeat (first | rw [if_pos (by omega)] | rw [if_neg (by omega)]); try (first | rfl | assumption | omega))
          rw [setWR, setRR] at s2
          exact s2
        rcases (show left = 0 ∨ (0 < left ∧ l.2.1 < left) ∨ (0 < left ∧ left < l.2.1) ∨ (0 < left ∧ l.2.1 = left) by omega) with c0 | c0 | c0 | c0
        · subst c0
          rw [g2.zero] at g3
          refine r_iload_n (Y := YX9_lose) dX9_lose_9 rfl ?_
          refine r_if_le (Y := YX9_lose) (tgt := 104) dX9_lose_10 (by decide) (fun c10 => ?_) (fun c10 => absurd c10 (by omega)) 
          refine r_iinc (Y := YX9_lose) dX9_lose_104 rfl ?_
          refine r_goto (Y := YX9_lose) (tgt := 2) dX9_lose_107 (by decide) ?_
          exact R2.weak (by repeat first | exact trivial | refine And.intro rfl ?_) (ih υ (by omega) g3 hG)
        · have kk := key (l.2.1)
          refine r_iload_n (Y := YX9_lose) dX9_lose_9 rfl ?_
          refine r_if_le (Y := YX9_lose) (tgt := 104) dX9_lose_10 (by decide) (fun c10 => absurd c10 (by omega)) (fun c10 => ?_) 
          refine r_aload_n (Y := YX9_lose) dX9_lose_13 rfl ?_
          refine r_getR (Y := YX9_lose) (δz := 19) fl_X9_64 dX9_lose_14 rfl rfl ?_
          refine r_iload_n (Y := YX9_lose) dX9_lose_17 rfl ?_
          refine r_iaV (Y := YX9_lose) (v := (L.length : Int) + 1) dX9_lose_18 (hcnt) ?_
          refine r_if_le (Y := YX9_lose) (tgt := 104) dX9_lose_19 (by decide) (fun c19 => absurd c19 (by omega)) (fun c19 => ?_) 
          refine r_bipush (Y := YX9_lose) dX9_lose_22 ?_
          refine r_iload_n (Y := YX9_lose) dX9_lose_24 rfl ?_
          refine r_imul (Y := YX9_lose) dX9_lose_25 ?_
          refine r_istore (Y := YX9_lose) dX9_lose_26 ?_
          refine r_aload_n (Y := YX9_lose) dX9_lose_28 rfl ?_
          refine r_getR (Y := YX9_lose) (δz := 17) fl_X9_58 dX9_lose_29 rfl rfl ?_
          refine r_iload (Y := YX9_lose) dX9_lose_32 rfl ?_
          refine r_iaV (Y := YX9_lose) (v := l.2.1) dX9_lose_34 (v2) ?_
          refine r_iload_n (Y := YX9_lose) dX9_lose_35 rfl ?_
          refine r_icmp_ge (Y := YX9_lose) (tgt := 49) dX9_lose_36 (by decide) (fun c36 => absurd c36 (by omega)) (fun c36 => ?_) 
          refine r_aload_n (Y := YX9_lose) dX9_lose_39 rfl ?_
          refine r_getR (Y := YX9_lose) (δz := 17) fl_X9_58 dX9_lose_40 rfl rfl ?_
          refine r_iload (Y := YX9_lose) dX9_lose_43 rfl ?_
          refine r_iaV (Y := YX9_lose) (v := l.2.1) dX9_lose_45 (v2) ?_
          refine r_goto (Y := YX9_lose) (tgt := 50) dX9_lose_46 (by decide) ?_
          refine r_istore (Y := YX9_lose) dX9_lose_50 ?_
          refine r_iload_n (Y := YX9_lose) dX9_lose_52 rfl ?_
          refine r_iload (Y := YX9_lose) dX9_lose_53 rfl ?_
          refine r_isub (Y := YX9_lose) dX9_lose_55 ?_
          refine r_istore_n (Y := YX9_lose) dX9_lose_56 ?_
          refine r_aload_n (Y := YX9_lose) dX9_lose_57 rfl ?_
          refine r_getR (Y := YX9_lose) (δz := 15) fl_X9_52 dX9_lose_58 rfl rfl ?_
          refine r_aload_n (Y := YX9_lose) dX9_lose_61 rfl ?_
          refine r_getR (Y := YX9_lose) (δz := 16) fl_X9_55 dX9_lose_62 rfl rfl ?_
          refine r_iload (Y := YX9_lose) dX9_lose_65 rfl ?_
          refine r_iaV (Y := YX9_lose) (v := l.1) dX9_lose_67 (v1) ?_
          refine r_dup2 (Y := YX9_lose) dX9_lose_68 ?_
          refine r_iaV (Y := YX9_lose) (v := W l.1) dX9_lose_69 (hwv) ?_
          refine r_iload (Y := YX9_lose) dX9_lose_70 rfl ?_
          refine r_iadd (Y := YX9_lose) dX9_lose_72 ?_
          refine r_iastore (Y := YX9_lose) dX9_lose_73 ?_
          refine r_aload_n (Y := YX9_lose) dX9_lose_74 rfl ?_
          refine r_getR (Y := YX9_lose) (δz := 17) fl_X9_58 dX9_lose_75 rfl rfl ?_
          refine r_iload (Y := YX9_lose) dX9_lose_78 rfl ?_
          refine r_dup2 (Y := YX9_lose) dX9_lose_80 ?_
          refine r_iaV (Y := YX9_lose) (v := l.2.1) dX9_lose_81 ((Eq.trans (b := υ (m + 17) (8 * n)) (by (try delta up); (try delta cpy); (try dsimp only); repeat (first | rw [if_pos (by omega)] | rw [if_neg (by omega)]); try (first | rfl | assumption | omega)) v2)) ?_
          refine r_iload (Y := YX9_lose) dX9_lose_82 rfl ?_
          refine r_isub (Y := YX9_lose) dX9_lose_84 ?_
          refine r_iastore (Y := YX9_lose) dX9_lose_85 ?_
          refine r_aload_n (Y := YX9_lose) dX9_lose_86 rfl ?_
          refine r_getR (Y := YX9_lose) (δz := 17) fl_X9_58 dX9_lose_87 rfl rfl ?_
          refine r_iload (Y := YX9_lose) dX9_lose_90 rfl ?_
          refine r_iaV (Y := YX9_lose) (v := l.2.1 - (l.2.1)) dX9_lose_92 (up_same _ _ _ _) ?_
          refine r_if_ne (Y := YX9_lose) (tgt := 101) dX9_lose_93 (by decide) (fun c93 => absurd c93 (by omega)) (fun c93 => ?_) 
          refine r_aload_n (Y := YX9_lose) dX9_lose_96 rfl ?_
          refine r_iload_n (Y := YX9_lose) dX9_lose_97 rfl ?_
          refine r_iV1V (Y := YX9_lose) mv_X9_107 dX9_lose_98 (c_X9_dropFirst hm (r := n) (by omega) (by omega) kk.2 (by omega)) (by assumption) (fun σ98 h98 => ?_)
          obtain ⟨dr1, dr2⟩ := h98
          have s5 := kk.1.rope (τ := σ98) (n := n) (L := L) hothers (by omega) (by omega) dr1 (fun k i a b c => dr2 k i b c)
          rw [setWR, setRR] at s5
          refine r_goto (Y := YX9_lose) (tgt := 9) dX9_lose_101 (by decide) ?_
          have hFM : FM σ σ98 m := hG.tr (fun k i a b => by rw [dr2 k i (by omega) (by omega)]; exact (by (try delta up); (try delta cpy); (try dsimp only); repeat (first | rw [if_pos (by omega)] | rw [if_neg (by omega)]); try (first | rfl | assumption | omega)))
          exact R2.weak (by repeat first | exact trivial | refine And.intro rfl ?_) (ihq L _ _ σ98 (by omega) (g2.all (by omega)) s5 hFM)
        · have kk := key (left)
          refine r_iload_n (Y := YX9_lose) dX9_lose_9 rfl ?_
          refine r_if_le (Y := YX9_lose) (tgt := 104) dX9_lose_10 (by decide) (fun c10 => absurd c10 (by omega)) (fun c10 => ?_) 
          refine r_aload_n (Y := YX9_lose) dX9_lose_13 rfl ?_
          refine r_getR (Y := YX9_lose) (δz := 19) fl_X9_64 dX9_lose_14 rfl rfl ?_
          refine r_iload_n (Y := YX9_lose) dX9_lose_17 rfl ?_
          refine r_iaV (Y := YX9_lose) (v := (L.length : Int) + 1) dX9_lose_18 (hcnt) ?_
          refine r_if_le (Y := YX9_lose) (tgt := 104) dX9_lose_19 (by decide) (fun c19 => absurd c19 (by omega)) (fun c19 => ?_) 
          refine r_bipush (Y := YX9_lose) dX9_lose_22 ?_
          refine r_iload_n (Y := YX9_lose) dX9_lose_24 rfl ?_
          refine r_imul (Y := YX9_lose) dX9_lose_25 ?_
          refine r_istore (Y := YX9_lose) dX9_lose_26 ?_
          refine r_aload_n (Y := YX9_lose) dX9_lose_28 rfl ?_
          refine r_getR (Y := YX9_lose) (δz := 17) fl_X9_58 dX9_lose_29 rfl rfl ?_
          refine r_iload (Y := YX9_lose) dX9_lose_32 rfl ?_
          refine r_iaV (Y := YX9_lose) (v := l.2.1) dX9_lose_34 (v2) ?_
          refine r_iload_n (Y := YX9_lose) dX9_lose_35 rfl ?_
          refine r_icmp_ge (Y := YX9_lose) (tgt := 49) dX9_lose_36 (by decide) (fun c36 => ?_) (fun c36 => absurd c36 (by omega)) 
          refine r_iload_n (Y := YX9_lose) dX9_lose_49 rfl ?_
          refine r_istore (Y := YX9_lose) dX9_lose_50 ?_
          refine r_iload_n (Y := YX9_lose) dX9_lose_52 rfl ?_
          refine r_iload (Y := YX9_lose) dX9_lose_53 rfl ?_
          refine r_isub (Y := YX9_lose) dX9_lose_55 ?_
          refine r_istore_n (Y := YX9_lose) dX9_lose_56 ?_
          refine r_aload_n (Y := YX9_lose) dX9_lose_57 rfl ?_
          refine r_getR (Y := YX9_lose) (δz := 15) fl_X9_52 dX9_lose_58 rfl rfl ?_
          refine r_aload_n (Y := YX9_lose) dX9_lose_61 rfl ?_
          refine r_getR (Y := YX9_lose) (δz := 16) fl_X9_55 dX9_lose_62 rfl rfl ?_
          refine r_iload (Y := YX9_lose) dX9_lose_65 rfl ?_
          refine r_iaV (Y := YX9_lose) (v := l.1) dX9_lose_67 (v1) ?_
          refine r_dup2 (Y := YX9_lose) dX9_lose_68 ?_
          refine r_iaV (Y := YX9_lose) (v := W l.1) dX9_lose_69 (hwv) ?_
          refine r_iload (Y := YX9_lose) dX9_lose_70 rfl ?_
          refine r_iadd (Y := YX9_lose) dX9_lose_72 ?_
          refine r_iastore (Y := YX9_lose) dX9_lose_73 ?_
          refine r_aload_n (Y := YX9_lose) dX9_lose_74 rfl ?_
          refine r_getR (Y := YX9_lose) (δz := 17) fl_X9_58 dX9_lose_75 rfl rfl ?_
          refine r_iload (Y := YX9_lose) dX9_lose_78 rfl ?_
          refine r_dup2 (Y := YX9_lose) dX9_lose_80 ?_
          refine r_iaV (Y := YX9_lose) (v := l.2.1) dX9_lose_81 ((Eq.trans (b := υ (m + 17) (8 * n)) (by (try delta up); (try delta cpy); (try dsimp only); repeat (first | rw [if_pos (by omega)] | rw [if_neg (by omega)]); try (first | rfl | assumption | omega)) v2)) ?_
          refine r_iload (Y := YX9_lose) dX9_lose_82 rfl ?_
          refine r_isub (Y := YX9_lose) dX9_lose_84 ?_
          refine r_iastore (Y := YX9_lose) dX9_lose_85 ?_
          refine r_aload_n (Y := YX9_lose) dX9_lose_86 rfl ?_
          refine r_getR (Y := YX9_lose) (δz := 17) fl_X9_58 dX9_lose_87 rfl rfl ?_
          refine r_iload (Y := YX9_lose) dX9_lose_90 rfl ?_
          refine r_iaV (Y := YX9_lose) (v := l.2.1 - (left)) dX9_lose_92 (up_same _ _ _ _) ?_
          refine r_if_ne (Y := YX9_lose) (tgt := 101) dX9_lose_93 (by decide) (fun c93 => ?_) (fun c93 => absurd c93 (by omega)) 
          refine r_goto (Y := YX9_lose) (tgt := 9) dX9_lose_101 (by decide) ?_
          have hFM : FM σ (up (up υ (m + 15) l.1 (W l.1 + (left))) (m + 17) (8 * n) (l.2.1 - (left))) m := hG.tr (fun k i a b => by (try delta up); (try delta cpy); (try dsimp only); repeat (first | rw [if_pos (by omega)] | rw [if_neg (by omega)]); try (first | rfl | assumption | omega))
          rw [show left - left = 0 by omega]
          exact R2.weak (by repeat first | exact trivial | refine And.intro rfl ?_) (ihq _ 0 _ _ (by rw [List.length_cons]; omega) (g2.part (by omega)) kk.1 hFM)
        · have kk := key (left)
          refine r_iload_n (Y := YX9_lose) dX9_lose_9 rfl ?_
          refine r_if_le (Y := YX9_lose) (tgt := 104) dX9_lose_10 (by decide) (fun c10 => absurd c10 (by omega)) (fun c10 => ?_) 
          refine r_aload_n (Y := YX9_lose) dX9_lose_13 rfl ?_
          refine r_getR (Y := YX9_lose) (δz := 19) fl_X9_64 dX9_lose_14 rfl rfl ?_
          refine r_iload_n (Y := YX9_lose) dX9_lose_17 rfl ?_
          refine r_iaV (Y := YX9_lose) (v := (L.length : Int) + 1) dX9_lose_18 (hcnt) ?_
          refine r_if_le (Y := YX9_lose) (tgt := 104) dX9_lose_19 (by decide) (fun c19 => absurd c19 (by omega)) (fun c19 => ?_) 
          refine r_bipush (Y := YX9_lose) dX9_lose_22 ?_
          refine r_iload_n (Y := YX9_lose) dX9_lose_24 rfl ?_
          refine r_imul (Y := YX9_lose) dX9_lose_25 ?_
          refine r_istore (Y := YX9_lose) dX9_lose_26 ?_
          refine r_aload_n (Y := YX9_lose) dX9_lose_28 rfl ?_
          refine r_getR (Y := YX9_lose) (δz := 17) fl_X9_58 dX9_lose_29 rfl rfl ?_
          refine r_iload (Y := YX9_lose) dX9_lose_32 rfl ?_
          refine r_iaV (Y := YX9_lose) (v := l.2.1) dX9_lose_34 (v2) ?_
          refine r_iload_n (Y := YX9_lose) dX9_lose_35 rfl ?_
          refine r_icmp_ge (Y := YX9_lose) (tgt := 49) dX9_lose_36 (by decide) (fun c36 => ?_) (fun c36 => absurd c36 (by omega)) 
          refine r_iload_n (Y := YX9_lose) dX9_lose_49 rfl ?_
          refine r_istore (Y := YX9_lose) dX9_lose_50 ?_
          refine r_iload_n (Y := YX9_lose) dX9_lose_52 rfl ?_
          refine r_iload (Y := YX9_lose) dX9_lose_53 rfl ?_
          refine r_isub (Y := YX9_lose) dX9_lose_55 ?_
          refine r_istore_n (Y := YX9_lose) dX9_lose_56 ?_
          refine r_aload_n (Y := YX9_lose) dX9_lose_57 rfl ?_
          refine r_getR (Y := YX9_lose) (δz := 15) fl_X9_52 dX9_lose_58 rfl rfl ?_
          refine r_aload_n (Y := YX9_lose) dX9_lose_61 rfl ?_
          refine r_getR (Y := YX9_lose) (δz := 16) fl_X9_55 dX9_lose_62 rfl rfl ?_
          refine r_iload (Y := YX9_lose) dX9_lose_65 rfl ?_
          refine r_iaV (Y := YX9_lose) (v := l.1) dX9_lose_67 (v1) ?_
          refine r_dup2 (Y := YX9_lose) dX9_lose_68 ?_
          refine r_iaV (Y := YX9_lose) (v := W l.1) dX9_lose_69 (hwv) ?_
          refine r_iload (Y := YX9_lose) dX9_lose_70 rfl ?_
          refine r_iadd (Y := YX9_lose) dX9_lose_72 ?_
          refine r_iastore (Y := YX9_lose) dX9_lose_73 ?_
          refine r_aload_n (Y := YX9_lose) dX9_lose_74 rfl ?_
          refine r_getR (Y := YX9_lose) (δz := 17) fl_X9_58 dX9_lose_75 rfl rfl ?_
          refine r_iload (Y := YX9_lose) dX9_lose_78 rfl ?_
          refine r_dup2 (Y := YX9_lose) dX9_lose_80 ?_
          refine r_iaV (Y := YX9_lose) (v := l.2.1) dX9_lose_81 ((Eq.trans (b := υ (m + 17) (8 * n)) (by (try delta up); (try delta cpy); (try dsimp only); repeat (first | rw [if_pos (by omega)] | rw [if_neg (by omega)]); try (first | rfl | assumption | omega)) v2)) ?_
          refine r_iload (Y := YX9_lose) dX9_lose_82 rfl ?_
          refine r_isub (Y := YX9_lose) dX9_lose_84 ?_
          refine r_iastore (Y := YX9_lose) dX9_lose_85 ?_
          refine r_aload_n (Y := YX9_lose) dX9_lose_86 rfl ?_
          refine r_getR (Y := YX9_lose) (δz := 17) fl_X9_58 dX9_lose_87 rfl rfl ?_
          refine r_iload (Y := YX9_lose) dX9_lose_90 rfl ?_
          refine r_iaV (Y := YX9_lose) (v := l.2.1 - (left)) dX9_lose_92 (up_same _ _ _ _) ?_
          refine r_if_ne (Y := YX9_lose) (tgt := 101) dX9_lose_93 (by decide) (fun c93 => absurd c93 (by omega)) (fun c93 => ?_) 
          refine r_aload_n (Y := YX9_lose) dX9_lose_96 rfl ?_
          refine r_iload_n (Y := YX9_lose) dX9_lose_97 rfl ?_
          refine r_iV1V (Y := YX9_lose) mv_X9_107 dX9_lose_98 (c_X9_dropFirst hm (r := n) (by omega) (by omega) kk.2 (by omega)) (by assumption) (fun σ98 h98 => ?_)
          obtain ⟨dr1, dr2⟩ := h98
          have s5 := kk.1.rope (τ := σ98) (n := n) (L := L) hothers (by omega) (by omega) dr1 (fun k i a b c => dr2 k i b c)
          rw [setWR, setRR] at s5
          refine r_goto (Y := YX9_lose) (tgt := 9) dX9_lose_101 (by decide) ?_
          have hFM : FM σ σ98 m := hG.tr (fun k i a b => by rw [dr2 k i (by omega) (by omega)]; exact (by (try delta up); (try delta cpy); (try dsimp only); repeat (first | rw [if_pos (by omega)] | rw [if_neg (by omega)]); try (first | rfl | assumption | omega)))
          obtain ⟨_, hBe⟩ := c0
          subst hBe
          exact R2.weak (by repeat first | exact trivial | refine And.intro rfl ?_) (ihq L _ _ σ98 (by omega) (g2.all (by omega)) s5 hFM)
set_option maxRecDepth 20000 in
theorem c_X9_goWeek {σ : ab_S} {m : Int} (hm : kd_ m 9 37) {B : AB} (hM : MT σ m B) (hW : WA B) : C2 YX9_goWeek 2 σ [rf m] (PV fun σ' => MT σ' m (weekA B) ∧ FM σ σ' m) := by
  obtain ⟨k1, k2, k3, k4, k5, k6, k7, k8, k9, k10, k11, k12, k13, k14, k15, k16, k17, k18, k19, k20, k21, k22, k23, k24, k25, k26⟩ := kd_model hm
  have hwr := hW.2.2.2.2
  refine C2.of (by decide +kernel) (Nat.le_of_ble_eq_true rfl) ?_
  refine r_aload_n (Y := YX9_goWeek) dX9_goWeek_0 rfl ?_
  refine r_aload_n (Y := YX9_goWeek) dX9_goWeek_1 rfl ?_
  refine r_getV (Y := YX9_goWeek) (v := aWr B) (jz := 8) fl_X9_89 dX9_goWeek_2 (hM.2.2.2.2.2.1) ?_
  refine r_iV1V (Y := YX9_goWeek) mv_X9_111 dX9_goWeek_5 (c_X9_lose hm hM hW hwr.1 (by omega)) (by assumption) (fun σ5 h5 => ?_)
  obtain ⟨b1, b2⟩ := h5
  refine r_aload_n (Y := YX9_goWeek) dX9_goWeek_8 rfl ?_
  refine r_dup (Y := YX9_goWeek) dX9_goWeek_9 ?_
  refine r_getV (Y := YX9_goWeek) (v := aWk B) (jz := 23) fl_X9_104 dX9_goWeek_10 ((b1.2.2.2.2.2.2.trans (lsN_wk 4))) ?_
  refine r_iconst (Y := YX9_goWeek) dX9_goWeek_13 ?_
  refine r_iadd (Y := YX9_goWeek) dX9_goWeek_14 ?_
  refine r_putI (Y := YX9_goWeek) (jz := 23) fp_X9_104 dX9_goWeek_15 ?_
  refine r_return (Y := YX9_goWeek) dX9_goWeek_18 ?_
  exact ⟨b1.wk (up_same _ _ _ _) (fun k i a => by (try delta up); (try delta cpy); (try dsimp only); repeat (first | rw [if_pos (by omega)] | rw [if_neg (by omega)]); try (first | rfl | assumption | omega)), b2.tr (fun k i a b => by (try delta up); (try delta cpy); (try dsimp only); repeat (first | rw [if_pos (by omega)] | rw [if_neg (by omega)]); try (first | rfl | assumption | omega))⟩
set_option maxRecDepth 20000 in
theorem c_X9_weave {σ : ab_S} {m : Int} (hm : kd_ m 9 37) {B : AB} (hM : MT σ m B) (hW : WA B) {p r : Int} (hp1 : 0 ≤ p) (hp2 : p < 6) (hr1 : 0 ≤ r) (hr2 : r < 4) (hlt : (aR B r).length < 8) : C2 YX9_weave 0 σ [rf m, iv p, iv r] (PV fun σ' => MT σ' m (setB (setR B r (aR B r ++ [(p, aB B p, aWk B)])) p 0) ∧ FM σ σ' m) := by
  obtain ⟨k1, k2, k3, k4, k5, k6, k7, k8, k9, k10, k11, k12, k13, k14, k15, k16, k17, k18, k19, k20, k21, k22, k23, k24, k25, k26⟩ := kd_model hm
  have hR := hM.2.2.2.2.1 r hr1 hr2
  have hB := hM.2.2.1 p hp1 hp2
  have hK := hM.2.2.2.2.2.2
  refine C2.of (by decide +kernel) (Nat.le_of_ble_eq_true rfl) ?_
  refine r_bipush (Y := YX9_weave) dX9_weave_0 ?_
  refine r_iload_n (Y := YX9_weave) dX9_weave_2 rfl ?_
  refine r_imul (Y := YX9_weave) dX9_weave_3 ?_
  refine r_aload_n (Y := YX9_weave) dX9_weave_4 rfl ?_
  refine r_getR (Y := YX9_weave) (δz := 19) fl_X9_64 dX9_weave_5 rfl rfl ?_
  refine r_iload_n (Y := YX9_weave) dX9_weave_8 rfl ?_
  refine r_iaV (Y := YX9_weave) (v := ((aR B r).length : Int)) dX9_weave_9 (hR.1) ?_
  refine r_iadd (Y := YX9_weave) dX9_weave_10 ?_
  refine r_istore_n (Y := YX9_weave) dX9_weave_11 ?_
  refine r_aload_n (Y := YX9_weave) dX9_weave_12 rfl ?_
  refine r_getR (Y := YX9_weave) (δz := 16) fl_X9_55 dX9_weave_13 rfl rfl ?_
  refine r_iload_n (Y := YX9_weave) dX9_weave_16 rfl ?_
  refine r_iload_n (Y := YX9_weave) dX9_weave_17 rfl ?_
  refine r_iastore (Y := YX9_weave) dX9_weave_18 ?_
  refine r_aload_n (Y := YX9_weave) dX9_weave_19 rfl ?_
  refine r_getR (Y := YX9_weave) (δz := 17) fl_X9_58 dX9_weave_20 rfl rfl ?_
  refine r_iload_n (Y := YX9_weave) dX9_weave_23 rfl ?_
  refine r_aload_n (Y := YX9_weave) dX9_weave_24 rfl ?_
  refine r_getR (Y := YX9_weave) (δz := 14) fl_X9_49 dX9_weave_25 rfl rfl ?_
  refine r_iload_n (Y := YX9_weave) dX9_weave_28 rfl ?_
  refine r_iaV (Y := YX9_weave) (v := aB B p) dX9_weave_29 ((by rw [← hB]; exact (by (try delta up); (try delta cpy); (try dsimp only); repeat (first | rw [if_pos (by omega)] | rw [if_neg (by omega)]); try (first | rfl | assumption | omega)))) ?_
  refine r_iastore (Y := YX9_weave) dX9_weave_30 ?_
  refine r_aload_n (Y := YX9_weave) dX9_weave_31 rfl ?_
  refine r_getR (Y := YX9_weave) (δz := 18) fl_X9_61 dX9_weave_32 rfl rfl ?_
  refine r_iload_n (Y := YX9_weave) dX9_weave_35 rfl ?_
  refine r_aload_n (Y := YX9_weave) dX9_weave_36 rfl ?_
  refine r_getV (Y := YX9_weave) (v := aWk B) (jz := 23) fl_X9_104 dX9_weave_37 ((by rw [← hK]; exact (by (try delta up); (try delta cpy); (try dsimp only); repeat (first | rw [if_pos (by omega)] | rw [if_neg (by omega)]); try (first | rfl | assumption | omega)))) ?_
  refine r_iastore (Y := YX9_weave) dX9_weave_40 ?_
  refine r_aload_n (Y := YX9_weave) dX9_weave_41 rfl ?_
  refine r_getR (Y := YX9_weave) (δz := 19) fl_X9_64 dX9_weave_42 rfl rfl ?_
  refine r_iload_n (Y := YX9_weave) dX9_weave_45 rfl ?_
  refine r_dup2 (Y := YX9_weave) dX9_weave_46 ?_
  refine r_iaV (Y := YX9_weave) (v := ((aR B r).length : Int)) dX9_weave_47 ((by rw [← hR.1]; exact (by (try delta up); (try delta cpy); (try dsimp only); repeat (first | rw [if_pos (by omega)] | rw [if_neg (by omega)]); try (first | rfl | assumption | omega)))) ?_
  refine r_iconst (Y := YX9_weave) dX9_weave_48 ?_
  refine r_iadd (Y := YX9_weave) dX9_weave_49 ?_
  refine r_iastore (Y := YX9_weave) dX9_weave_50 ?_
  refine r_aload_n (Y := YX9_weave) dX9_weave_51 rfl ?_
  refine r_getR (Y := YX9_weave) (δz := 14) fl_X9_49 dX9_weave_52 rfl rfl ?_
  refine r_iload_n (Y := YX9_weave) dX9_weave_55 rfl ?_
  refine r_iconst (Y := YX9_weave) dX9_weave_56 ?_
  refine r_iastore (Y := YX9_weave) dX9_weave_57 ?_
  refine r_return (Y := YX9_weave) dX9_weave_58 ?_
  refine ⟨?_, fun k i a b => by (try delta up); (try delta cpy); (try dsimp only); repeat (first | rw [if_pos (by omega)] | rw [if_neg (by omega)]); try (first | rfl | assumption | omega)⟩
  have s1 := hM.rope (τ := up (up (up (up σ (m + 16) (8 * r + (aR B r).length) p) (m + 17) (8 * r + (aR B r).length) (aB B p)) (m + 18) (8 * r + (aR B r).length) (aWk B)) (m + 19) r ((aR B r).length + 1)) (n := r) (L := aR B r ++ [(p, aB B p, aWk B)]) (fun q a b c => (hW.2.2.2.1 q a b).1) hr1 hr2 ?_ (fun k i a b c => by (try delta up); (try delta cpy); (try dsimp only); repeat (first | rw [if_pos (by omega)] | rw [if_neg (by omega)]); try (first | rfl | assumption | omega))
  · exact s1.bask (up_same _ _ _ _) (fun k i a b => by (try delta up); (try delta cpy); (try dsimp only); repeat (first | rw [if_pos (by omega)] | rw [if_neg (by omega)]); try (first | rfl | assumption | omega))
  · refine ⟨?_, fun i l hl => ?_⟩
    · rw [List.length_append, List.length_singleton]
      exact up_same _ _ _ _
    · by_cases hi : i < (aR B r).length
      · rw [List.getElem?_append_left hi] at hl
        have h3 := hR.2 i l hl
        rw [← h3.1, ← h3.2.1, ← h3.2.2]
        exact ⟨by (try delta up); (try delta cpy); (try dsimp only); repeat (first | rw [if_pos (by omega)] | rw [if_neg (by omega)]); try (first | rfl | assumption | omega), by (try delta up); (try delta cpy); (try dsimp only); repeat (first | rw [if_pos (by omega)] | rw [if_neg (by omega)]); try (first | rfl | assumption | omega), by (try delta up); (try delta cpy); (try dsimp only); repeat (first | rw [if_pos (by omega)] | rw [if_neg (by omega)]); try (first | rfl | assumption | omega)⟩
      · have hi2 := (List.getElem?_eq_some_iff.mp hl).1
        rw [List.length_append, List.length_singleton] at hi2
        have hi3 : i = (aR B r).length := by omega
        rw [List.getElem?_append_right (by omega), hi3, Nat.sub_self] at hl
        have e : (p, aB B p, aWk B) = l := Option.some.inj hl
        subst e
        rw [hi3]
        exact ⟨by (try delta up); (try delta cpy); (try dsimp only); repeat (first | rw [if_pos (by omega)] | rw [if_neg (by omega)]); try (first | rfl | assumption | omega), by (try delta up); (try delta cpy); (try dsimp only); repeat (first | rw [if_pos (by omega)] | rw [if_neg (by omega)]); try (first | rfl | assumption | omega), by (try delta up); (try delta cpy); (try dsimp only); repeat (first | rw [if_pos (by omega)] | rw [if_neg (by omega)]); try (first | rfl | assumption | omega)⟩
set_option maxRecDepth 20000 in
theorem c_X9_borne {σ : ab_S} {m : Int} (hm : kd_ m 9 37) {B : AB} (hM : MT σ m B) (hW : WA B) : C2 YX9_borne 1 σ [rf m] (PI fun σ' z => σ' = σ ∧ z = bearsA B 0) := by
  obtain ⟨k1, k2, k3, k4, k5, k6, k7, k8, k9, k10, k11, k12, k13, k14, k15, k16, k17, k18, k19, k20, k21, k22, k23, k24, k25, k26⟩ := kd_model hm
  have hPb : ∀ i : Int, 0 ≤ i → i < 4 → 0 ≤ powL (aS B) (aR B i) ∧ powL (aS B) (aR B i) ≤ 7128 := fun i h1 h2 => by
    have h3 := hW.2.2.2.1 i h1 h2
    have h4 := powL_bd hW.2.1 h3.2
    have h5 := h3.1
    omega
  have hgl : glr (fun r => powL (aS B) (aR B r)) 4 = bearsA B 0 := glr_congr (fun i h1 h2 => by rw [loseL_zero (hW.2.2.2.1 i h1 h2).2]) 4 (Nat.le_refl 4)
  have hgb : ∀ n : Nat, n ≤ 4 → 0 ≤ glr (fun r => powL (aS B) (aR B r)) n ∧ glr (fun r => powL (aS B) (aR B r)) n ≤ 400000 := glr_bd (P := (fun r => powL (aS B) (aR B r))) (fun i h1 h2 => by have := hPb i h1 h2; (try dsimp only); omega)
  refine C2.of (by decide +kernel) (Nat.le_of_ble_eq_true rfl) ?_
  refine r_iconst (Y := YX9_borne) dX9_borne_0 ?_
  refine r_istore_n (Y := YX9_borne) dX9_borne_1 ?_
  refine r_iconst (Y := YX9_borne) dX9_borne_2 ?_
  refine r_istore_n (Y := YX9_borne) dX9_borne_3 ?_
  suffices hloop : ∀ (k n : Nat), n + k = 4 → R2 YX9_borne 1 σ 4 [some (rf m), some (iv (glr (fun r => powL (aS B) (aR B r)) n)), some (iv n), none, none, none] [] (PI fun σ' z => σ' = σ ∧ z = bearsA B 0) from
    R2.weak (by repeat first | exact trivial | refine And.intro rfl ?_) (hloop 4 0 rfl)
  intro k
  induction k with
  | zero =>
    intro n e1
    have e2 : n = 4 := by omega
    subst e2
    refine r_iload_n (Y := YX9_borne) dX9_borne_4 rfl ?_
    refine r_iconst (Y := YX9_borne) dX9_borne_5 ?_
    refine r_icmp_ge (Y := YX9_borne) (tgt := 76) dX9_borne_6 (by decide) (fun c6 => ?_) (fun c6 => absurd c6 (by omega)) 
    refine r_iload_n (Y := YX9_borne) dX9_borne_76 rfl ?_
    refine r_ireturn (Y := YX9_borne) dX9_borne_77 ?_
    exact ⟨rfl, hgl⟩
  | succ k ih =>
    intro n e1
    have hPn := hPb n (by omega) (by omega)
    have hgn := hgb n (by omega)
    have ih := ih (n + 1) (by omega)
    have hst : glr (fun r => powL (aS B) (aR B r)) (n + 1) = max (glr (fun r => powL (aS B) (aR B r)) n) (cge (fun r => powL (aS B) (aR B r)) (powL (aS B) (aR B n)) 4 * powL (aS B) (aR B n)) := rfl
    rw [hst] at ih
    refine r_iload_n (Y := YX9_borne) dX9_borne_4 rfl ?_
    refine r_iconst (Y := YX9_borne) dX9_borne_5 ?_
    refine r_icmp_ge (Y := YX9_borne) (tgt := 76) dX9_borne_6 (by decide) (fun c6 => absurd c6 (by omega)) (fun c6 => ?_) 
    refine r_aload_n (Y := YX9_borne) dX9_borne_9 rfl ?_
    refine r_iload_n (Y := YX9_borne) dX9_borne_10 rfl ?_
    refine r_iV1I (Y := YX9_borne) mv_X9_114 dX9_borne_11 (c_X9_powerOf hm (r := n) (by omega) (by omega) hM hW) (by assumption) (fun σ11 z11 h11 => ?_)
    obtain ⟨rfl, rfl⟩ := h11
    refine r_istore_n (Y := YX9_borne) dX9_borne_14 ?_
    refine r_iconst (Y := YX9_borne) dX9_borne_15 ?_
    refine r_istore (Y := YX9_borne) dX9_borne_16 ?_
    refine r_iconst (Y := YX9_borne) dX9_borne_18 ?_
    refine r_istore (Y := YX9_borne) dX9_borne_19 ?_
    suffices hin : ∀ (k2 j : Nat), j + k2 = 4 → R2 YX9_borne 1 σ11 21 [some (rf m), some (iv (glr (fun r => powL (aS B) (aR B r)) n)), some (iv n), some (iv (powL (aS B) (aR B n))), some (iv (cge (fun r => powL (aS B) (aR B r)) (powL (aS B) (aR B n)) j)), some (iv j)] [] (PI fun σ' z => σ' = σ11 ∧ z = bearsA B 0) from
      R2.weak (by repeat first | exact trivial | refine And.intro rfl ?_) (hin 4 0 rfl)
    intro k2
    induction k2 with
    | zero =>
      intro j e3
      have e4 : j = 4 := by omega
      subst e4
      have hcb := cge_bd (fun r => powL (aS B) (aR B r)) (powL (aS B) (aR B n)) 4
      have hmb := mul_bd (h := powL (aS B) (aR B n)) (w := cge (fun r => powL (aS B) (aR B r)) (powL (aS B) (aR B n)) 4) (H := 7128) (V := 4) (by omega) (by omega) (by omega) (by omega)
      rw [Int.mul_comm (cge (fun r => powL (aS B) (aR B r)) (powL (aS B) (aR B n)) 4)] at ih
      refine r_iload (Y := YX9_borne) dX9_borne_21 rfl ?_
      refine r_iconst (Y := YX9_borne) dX9_borne_23 ?_
      refine r_icmp_ge (Y := YX9_borne) (tgt := 53) dX9_borne_24 (by decide) (fun c24 => ?_) (fun c24 => absurd c24 (by omega)) 
      refine r_iload_n (Y := YX9_borne) dX9_borne_53 rfl ?_
      refine r_iload (Y := YX9_borne) dX9_borne_54 rfl ?_
      refine r_imul (Y := YX9_borne) dX9_borne_56 ?_
      refine r_iload_n (Y := YX9_borne) dX9_borne_57 rfl ?_
      refine r_icmp_le (Y := YX9_borne) (tgt := 68) dX9_borne_58 (by decide) (fun c58 => ?_) (fun c58 => ?_) 
      · refine r_iload_n (Y := YX9_borne) dX9_borne_68 rfl ?_
        refine r_istore_n (Y := YX9_borne) dX9_borne_69 ?_
        refine r_iinc (Y := YX9_borne) dX9_borne_70 rfl ?_
        refine r_goto (Y := YX9_borne) (tgt := 4) dX9_borne_73 (by decide) ?_
        first
          | (rw [show max (glr (fun r => powL (aS B) (aR B r)) n) (powL (aS B) (aR B n) * cge (fun r => powL (aS B) (aR B r)) (powL (aS B) (aR B n)) 4) = glr (fun r => powL (aS B) (aR B r)) n by omega] at ih
             exact R2.weak (by repeat first | exact trivial | refine And.intro rfl ?_) ih)
          | (rw [show max (glr (fun r => powL (aS B) (aR B r)) n) (powL (aS B) (aR B n) * cge (fun r => powL (aS B) (aR B r)) (powL (aS B) (aR B n)) 4) = powL (aS B) (aR B n) * cge (fun r => powL (aS B) (aR B r)) (powL (aS B) (aR B n)) 4 by omega] at ih
             exact R2.weak (by repeat first | exact trivial | refine And.intro rfl ?_) ih)
      · refine r_iload_n (Y := YX9_borne) dX9_borne_61 rfl ?_
        refine r_iload (Y := YX9_borne) dX9_borne_62 rfl ?_
        refine r_imul (Y := YX9_borne) dX9_borne_64 ?_
        refine r_goto (Y := YX9_borne) (tgt := 69) dX9_borne_65 (by decide) ?_
        refine r_istore_n (Y := YX9_borne) dX9_borne_69 ?_
        refine r_iinc (Y := YX9_borne) dX9_borne_70 rfl ?_
        refine r_goto (Y := YX9_borne) (tgt := 4) dX9_borne_73 (by decide) ?_
        first
          | (rw [show max (glr (fun r => powL (aS B) (aR B r)) n) (powL (aS B) (aR B n) * cge (fun r => powL (aS B) (aR B r)) (powL (aS B) (aR B n)) 4) = glr (fun r => powL (aS B) (aR B r)) n by omega] at ih
             exact R2.weak (by repeat first | exact trivial | refine And.intro rfl ?_) ih)
          | (rw [show max (glr (fun r => powL (aS B) (aR B r)) n) (powL (aS B) (aR B n) * cge (fun r => powL (aS B) (aR B r)) (powL (aS B) (aR B n)) 4) = powL (aS B) (aR B n) * cge (fun r => powL (aS B) (aR B r)) (powL (aS B) (aR B n)) 4 by omega] at ih
             exact R2.weak (by repeat first | exact trivial | refine And.intro rfl ?_) ih)
    | succ k2 ih2 =>
      intro j e3
      have hPj := hPb j (by omega) (by omega)
      have ih2 := ih2 (j + 1) (by omega)
      have hst2 : cge (fun r => powL (aS B) (aR B r)) (powL (aS B) (aR B n)) (j + 1) = cge (fun r => powL (aS B) (aR B r)) (powL (aS B) (aR B n)) j + if powL (aS B) (aR B n) ≤ powL (aS B) (aR B j) then 1 else 0 := rfl
      rw [hst2] at ih2
      refine r_iload (Y := YX9_borne) dX9_borne_21 rfl ?_
      refine r_iconst (Y := YX9_borne) dX9_borne_23 ?_
      refine r_icmp_ge (Y := YX9_borne) (tgt := 53) dX9_borne_24 (by decide) (fun c24 => absurd c24 (by omega)) (fun c24 => ?_) 
      refine r_iload (Y := YX9_borne) dX9_borne_27 rfl ?_
      refine r_aload_n (Y := YX9_borne) dX9_borne_29 rfl ?_
      refine r_iload (Y := YX9_borne) dX9_borne_30 rfl ?_
      refine r_iV1I (Y := YX9_borne) mv_X9_114 dX9_borne_32 (c_X9_powerOf hm (r := j) (by omega) (by omega) hM hW) (by assumption) (fun σ32 z32 h32 => ?_)
      obtain ⟨e32, rfl⟩ := h32
      subst e32
      refine r_iload_n (Y := YX9_borne) dX9_borne_35 rfl ?_
      refine r_icmp_lt (Y := YX9_borne) (tgt := 43) dX9_borne_36 (by decide) (fun c36 => ?_) (fun c36 => ?_) 
      · refine r_iconst (Y := YX9_borne) dX9_borne_43 ?_
        refine r_iadd (Y := YX9_borne) dX9_borne_44 ?_
        refine r_istore (Y := YX9_borne) dX9_borne_45 ?_
        refine r_iinc (Y := YX9_borne) dX9_borne_47 rfl ?_
        refine r_goto (Y := YX9_borne) (tgt := 21) dX9_borne_50 (by decide) ?_
        first
          | (rw [if_pos (by omega)] at ih2; exact R2.weak (by repeat first | exact trivial | refine And.intro rfl ?_) ih2)
          | (rw [if_neg (by omega)] at ih2; exact R2.weak (by repeat first | exact trivial | refine And.intro rfl ?_) ih2)
      · refine r_iconst (Y := YX9_borne) dX9_borne_39 ?_
        refine r_goto (Y := YX9_borne) (tgt := 44) dX9_borne_40 (by decide) ?_
        refine r_iadd (Y := YX9_borne) dX9_borne_44 ?_
        refine r_istore (Y := YX9_borne) dX9_borne_45 ?_
        refine r_iinc (Y := YX9_borne) dX9_borne_47 rfl ?_
        refine r_goto (Y := YX9_borne) (tgt := 21) dX9_borne_50 (by decide) ?_
        first
          | (rw [if_pos (by omega)] at ih2; exact R2.weak (by repeat first | exact trivial | refine And.intro rfl ?_) ih2)
          | (rw [if_neg (by omega)] at ih2; exact R2.weak (by repeat first | exact trivial | refine And.intro rfl ?_) ih2)
