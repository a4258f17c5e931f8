/-! the best order by trying all: its mathematics -/
def dl (n : Nat) : Nat → Nat → List Int
  | 0, _ => []
  | k + 1, i => dl n k (i / n) ++ [((i % n : Nat) : Int)]
def setL : List Int → Int → Int
  | [], t => t
  | l :: r, t => setL r (sb t l.toNat)
def hadN (n : Nat) : Nat → Nat → Int → Int
  | 0, _, t => t
  | k + 1, i, t => hadN n k (i / n) (sb t (i % n))
theorem dl_len (n : Nat) : ∀ k i : Nat, (dl n k i).length = k
  | 0, _ => rfl
  | k + 1, i => by
    show (dl n k (i / n) ++ [_]).length = k + 1
    rw [List.length_append, List.length_singleton, dl_len n k]
theorem dl_mem {n : Nat} (hn : 1 ≤ n) : ∀ (k i : Nat) (l : Int), l ∈ dl n k i → 0 ≤ l ∧ l < n
  | 0, _, l, h => by cases h
  | k + 1, i, l, h => by
    rcases List.mem_append.mp h with h | h
    · exact dl_mem hn k _ l h
    · rw [List.mem_singleton.mp h]
      have := Nat.mod_lt i (show n > 0 by omega)
      omega
theorem dl_ext {n : Nat} (hn : 1 ≤ n) (j P d : Nat) (hd : d < n) : dl n (j + 1) (P * n + d) = dl n j P ++ [(d : Int)] := by
  show dl n j ((P * n + d) / n) ++ [(((P * n + d) % n : Nat) : Int)] = _
  have e1 : (P * n + d) / n = P := by
    rw [Nat.mul_comm, Nat.mul_add_div (by omega), Nat.div_eq_of_lt hd, Nat.add_zero]
  have e2 : (P * n + d) % n = d := by
    rw [Nat.mul_comm, Nat.mul_add_mod, Nat.mod_eq_of_lt hd]
  rw [e1, e2]
def sbcB (t a b : Nat) : Bool := decide (sb (sb t a) b = sb (sb t b) a)
theorem sbc_all : ∀ t : Nat, t < 64 → ∀ a : Nat, a < 6 → ∀ b : Nat, b < 6 → sbcB t a b = true := by decide +kernel
theorem sb_comm {t : Int} {a b : Nat} (h1 : 0 ≤ t) (h2 : t < 64) (ha : a < 6) (hb : b < 6) : sb (sb t a) b = sb (sb t b) a := by
  have h := sbc_all t.toNat (by omega) a ha b hb
  unfold sbcB at h
  rw [decide_eq_true_eq, show ((t.toNat : Nat) : Int) = t by omega] at h
  exact h
def sbB (n t l : Nat) : Bool := decide (0 ≤ sb t l) && decide (sb t l < ((2 ^ n : Nat) : Int)) && (decide (bt t l = 0) || decide (sb t l = t)) && decide (pc6 (sb t l) ≤ pc6 t + 1)
theorem sbB_all : ∀ n : Nat, n < 7 → ∀ t : Nat, t < 2 ^ n → ∀ l : Nat, l < n → sbB n t l = true := by decide +kernel
theorem sb_bd {n : Nat} (hn : n ≤ 6) {t : Int} (h1 : 0 ≤ t) (h2 : t < ((2 ^ n : Nat) : Int)) {l : Nat} (hl : l < n) : (0 ≤ sb t l ∧ sb t l < ((2 ^ n : Nat) : Int)) ∧ (¬ bt t l = 0 → sb t l = t) ∧ pc6 (sb t l) ≤ pc6 t + 1 ∧ (bt t l = 0 → pc6 (sb t l) = pc6 t + 1) := by
  have h := sbB_all n (by omega) t.toNat (by omega) l hl
  have h5 := qsb_dec n (by omega) t.toNat (by omega) l hl
  unfold sbB at h
  rw [Bool.and_eq_true, Bool.and_eq_true, Bool.and_eq_true, Bool.or_eq_true, decide_eq_true_eq, decide_eq_true_eq, decide_eq_true_eq, decide_eq_true_eq, decide_eq_true_eq, show ((t.toNat : Nat) : Int) = t by omega] at h
  rw [show ((t.toNat : Nat) : Int) = t by omega] at h5
  refine ⟨h.1.1, fun hb => ?_, h.2, fun hb => (h5 hb).2.2⟩
  rcases h.1.2 with q | q
  · exact absurd q hb
  · exact q
theorem setL_app : ∀ (L : List Int) (t d : Int), setL (L ++ [d]) t = sb (setL L t) d.toNat
  | [], _, _ => rfl
  | l :: r, t, d => setL_app r (sb t l.toNat) d
theorem setL_in {n : Nat} (hn : n ≤ 6) : ∀ (L : List Int) (t : Int), (∀ l ∈ L, 0 ≤ l ∧ l < n) → 0 ≤ t → t < ((2 ^ n : Nat) : Int) → 0 ≤ setL L t ∧ setL L t < ((2 ^ n : Nat) : Int)
  | [], _, _, h1, h2 => ⟨h1, h2⟩
  | l :: r, t, h, h1, h2 => by
    have hl := h l List.mem_cons_self
    have h3 := (sb_bd hn h1 h2 (l := l.toNat) (by omega)).1
    exact setL_in hn r _ (fun q hq => h q (List.mem_cons_of_mem _ hq)) h3.1 h3.2
theorem setL_cons (l : Int) (r : List Int) (t : Int) : setL (l :: r) t = setL r (sb t l.toNat) := rfl
theorem setL_sb {n : Nat} (hn : n ≤ 6) {d : Nat} (hd : d < n) (L : List Int) : ∀ t : Int, (∀ l ∈ L, 0 ≤ l ∧ l < n) → 0 ≤ t → t < ((2 ^ n : Nat) : Int) → setL L (sb t d) = sb (setL L t) d := by
  induction L with
  | nil => intro t _ _ _; rfl
  | cons l r ih =>
    intro t h h1 h2
    have hl := h l List.mem_cons_self
    have h3 := (sb_bd hn h1 h2 (l := l.toNat) (by omega)).1
    have h64 := (qp2_dec n (by omega)).2.1
    have e : sb (sb t d) l.toNat = sb (sb t l.toNat) d := sb_comm h1 (by omega) (by omega) (by omega)
    rw [setL_cons, setL_cons, e]
    exact ih (sb t l.toNat) (fun q hq => h q (List.mem_cons_of_mem _ hq)) h3.1 h3.2
theorem hadN_eq {n : Nat} (hn : n ≤ 6) (h0 : 1 ≤ n) : ∀ (k i : Nat) (t : Int), 0 ≤ t → t < ((2 ^ n : Nat) : Int) → hadN n k i t = setL (dl n k i) t
  | 0, _, _, _, _ => rfl
  | k + 1, i, t, h1, h2 => by
    have hm := Nat.mod_lt i (show n > 0 by omega)
    have h3 := (sb_bd hn h1 h2 hm).1
    show hadN n k (i / n) (sb t (i % n)) = setL (dl n k (i / n) ++ [((i % n : Nat) : Int)]) t
    rw [hadN_eq hn h0 k _ _ h3.1 h3.2, setL_app, Int.toNat_natCast, setL_sb hn hm _ _ (dl_mem h0 k _) h1 h2]
/-- gain and crossed, load by load -/
def simS (xs : List (Int × Int)) (B : Int → Int) (q : Int × Int) (l : Int) : Int × Int := if lw xs l.toNat ≤ B q.2 then (q.1 + lv xs l.toNat, q.2 + 1) else q
def sim (xs : List (Int × Int)) (B : Int → Int) : List Int → Int × Int → Int × Int
  | [], q => q
  | l :: r, q => sim xs B r (simS xs B q l)
theorem sim_app {xs : List (Int × Int)} {B : Int → Int} : ∀ (L : List Int) (q : Int × Int) (d : Int), sim xs B (L ++ [d]) q = simS xs B (sim xs B L q) d
  | [], _, _ => rfl
  | l :: r, q, d => sim_app r _ d
/-- one number tried: the first of the best so far -/
def tryO (xs : List (Int × Int)) (B : Int → Int) (st : Int × List Int) (i : Nat) : Int × List Int := if setL (dl xs.length xs.length i) 0 = ((2 ^ xs.length : Nat) : Int) - 1 ∧ st.1 < (sim xs B (dl xs.length xs.length i) (0, 0)).1 then ((sim xs B (dl xs.length xs.length i) (0, 0)).1, dl xs.length xs.length i) else st
def runN (xs : List (Int × Int)) (B : Int → Int) (st : Int × List Int) (a : Nat) : Nat → Int × List Int
  | 0 => st
  | c + 1 => tryO xs B (runN xs B st a c) (a + c)
theorem runN_add {xs : List (Int × Int)} {B : Int → Int} {st : Int × List Int} {a c : Nat} : ∀ d : Nat, runN xs B st a (c + d) = runN xs B (runN xs B st a c) (a + c) d
  | 0 => rfl
  | d + 1 => by
    show tryO xs B (runN xs B st a (c + d)) (a + (c + d)) = tryO xs B (runN xs B (runN xs B st a c) (a + c) d) (a + c + d)
    rw [runN_add d, Nat.add_assoc]
theorem blk_start (P d n k : Nat) : P * n ^ (k + 1) + d * n ^ k = (P * n + d) * n ^ k := by
  rw [Nat.pow_succ, Nat.add_mul, Nat.mul_assoc, Nat.mul_comm (n ^ k) n]
theorem blk_bad {xs : List (Int × Int)} {B : Int → Int} (hL : xs.length ≤ 6) (h0 : 1 ≤ xs.length) : ∀ (k j P : Nat) (st : Int × List Int), j + k = xs.length → pc6 (setL (dl xs.length j P) 0) < j → runN xs B st (P * xs.length ^ k) (xs.length ^ k) = st
  | 0, j, P, st, h1, h2 => by
    have h3 : j = xs.length := by omega
    subst h3
    show tryO xs B st (P * 1 + 0) = st
    rw [Nat.mul_one, Nat.add_zero]
    refine if_neg (fun h => ?_)
    have h4 := (qp2_dec xs.length (by omega)).2
    have h5 := (qpc_dec xs.length (by omega) (2 ^ xs.length - 1) (by omega)).2.2.2 (by omega)
    rw [show ((2 ^ xs.length - 1 : Nat) : Int) = ((2 ^ xs.length : Nat) : Int) - 1 by omega, ← h.1] at h5
    omega
  | k + 1, j, P, st, h1, h2 => by
    have h4 := (qp2_dec xs.length (by omega)).2
    have hin := setL_in hL (dl xs.length j P) 0 (dl_mem h0 j P) (Int.le_refl 0) (by omega)
    have hd : ∀ d : Nat, d ≤ xs.length → runN xs B st (P * xs.length ^ (k + 1)) (d * xs.length ^ k) = st := by
      intro d
      induction d with
      | zero => intro _; rw [Nat.zero_mul]; rfl
      | succ d ih =>
        intro hd
        rw [Nat.succ_mul, runN_add, ih (by omega), blk_start]
        refine blk_bad hL h0 k (j + 1) (P * xs.length + d) st (by omega) ?_
        rw [dl_ext h0 j P d (by omega), setL_app, Int.toNat_natCast]
        have := (sb_bd hL hin.1 hin.2 (l := d) (by omega)).2.2.1
        omega
    have := hd xs.length (Nat.le_refl _)
    rw [Nat.pow_succ, Nat.mul_comm (xs.length ^ k) xs.length]
    rw [Nat.pow_succ, Nat.mul_comm (xs.length ^ k) xs.length] at this
    exact this
def appG (st : Int × List Int) (pre : List Int) (g : Int) (r : Option (Int × List Int)) : Int × List Int := match r with
  | none => st
  | some q => if st.1 < g + q.1 then (g + q.1, pre ++ q.2) else st
def betG (a b : Option (Int × List Int)) : Option (Int × List Int) := match a, b with
  | none, b => b
  | a, none => a
  | some x, some y => if x.1 < y.1 then some y else some x
theorem app_bet (st : Int × List Int) (pre : List Int) (g : Int) (a b : Option (Int × List Int)) : appG (appG st pre g a) pre g b = appG st pre g (betG a b) := by
  cases a with
  | none => cases b <;> rfl
  | some x =>
    cases b with
    | none => rfl
    | some y =>
      show (if (if st.1 < g + x.1 then (g + x.1, pre ++ x.2) else st).1 < g + y.1 then (g + y.1, pre ++ y.2) else (if st.1 < g + x.1 then (g + x.1, pre ++ x.2) else st)) = appG st pre g (if x.1 < y.1 then some y else some x)
      by_cases h1 : st.1 < g + x.1
      · rw [if_pos h1]
        by_cases h2 : x.1 < y.1
        · rw [if_pos h2, if_pos (by dsimp only; omega)]
          show _ = if st.1 < g + y.1 then (g + y.1, pre ++ y.2) else st
          rw [if_pos (by omega)]
        · rw [if_neg h2, if_neg (by dsimp only; omega)]
          show _ = if st.1 < g + x.1 then (g + x.1, pre ++ x.2) else st
          rw [if_pos h1]
      · rw [if_neg h1]
        by_cases h2 : x.1 < y.1
        · rw [if_pos h2]
          rfl
        · rw [if_neg h2]
          show _ = if st.1 < g + x.1 then (g + x.1, pre ++ x.2) else st
          rw [if_neg h1, if_neg (by omega)]
theorem mfN_le {xs : List (Int × Int)} {B : Int → Int} {f : Int → Int → Int} {t c : Int} {j : Nat} : ∀ {d : Nat}, j < d → bt t j = 0 → wby xs B f t c j ≤ mfN xs B f t c d
  | 0, h, _ => by omega
  | d + 1, h, hb => by
    have e1 : mfN xs B f t c (d + 1) = if bt t d = 0 then max (mfN xs B f t c d) (wby xs B f t c d) else mfN xs B f t c d := rfl
    rw [e1]
    by_cases e : j = d
    · subst e
      rw [if_pos hb]; omega
    · have ih := mfN_le (xs := xs) (B := B) (f := f) (c := c) (show j < d by omega) hb
      split <;> omega
def cand (xs : List (Int × Int)) (B : Int → Int) (k : Nat) (t c : Int) (l : Nat) : Int × List Int := (wby xs B (VV xs B k) t c l, (l : Int) :: ords xs B k (sb t l) (if lw xs l ≤ B c then c + 1 else c))
def DD (xs : List (Int × Int)) (B : Int → Int) (k : Nat) (t c : Int) : Nat → Option (Int × List Int)
  | 0 => none
  | d + 1 => if bt t d = 0 then betG (DD xs B k t c d) (some (cand xs B k t c d)) else DD xs B k t c d
theorem DD_inv {xs : List (Int × Int)} {B : Int → Int} {k : Nat} {t c : Int} (hO : OKL xs) : ∀ d : Nat, d ≤ xs.length → ((∀ l, l < d → ¬ bt t l = 0) ∧ DD xs B k t c d = none ∧ mfN xs B (VV xs B k) t c d = 0) ∨ (∃ l, l < d ∧ bt t l = 0 ∧ wby xs B (VV xs B k) t c l = mfN xs B (VV xs B k) t c d ∧ (∀ j, j < l → bt t j = 0 → wby xs B (VV xs B k) t c j < mfN xs B (VV xs B k) t c d) ∧ DD xs B k t c d = some (cand xs B k t c l))
  | 0, _ => Or.inl ⟨fun l h => by omega, rfl, rfl⟩
  | d + 1, hd => by
    have hw := wby_bd (B := B) (t := t) (c := c) hO (show d < xs.length by omega) (VV_bd (B := B) hO k)
    have e1 : mfN xs B (VV xs B k) t c (d + 1) = if bt t d = 0 then max (mfN xs B (VV xs B k) t c d) (wby xs B (VV xs B k) t c d) else mfN xs B (VV xs B k) t c d := rfl
    have e2 : DD xs B k t c (d + 1) = if bt t d = 0 then betG (DD xs B k t c d) (some (cand xs B k t c d)) else DD xs B k t c d := rfl
    rw [e1, e2]
    by_cases hb : bt t d = 0
    · rw [if_pos hb, if_pos hb]
      rcases DD_inv (k := k) (t := t) (c := c) hO d (by omega) with ⟨q1, q2, q3⟩ | ⟨l, q1, q2, q3, q4, q5⟩
      · refine Or.inr ⟨d, by omega, hb, ?_, fun j hj hbj => absurd hbj (q1 j hj), by rw [q2]; rfl⟩
        rw [q3]; omega
      · rw [q5]
        by_cases h : mfN xs B (VV xs B k) t c d < wby xs B (VV xs B k) t c d
        · refine Or.inr ⟨d, by omega, hb, by omega, fun j hj hbj => ?_, ?_⟩
          · have hj2 : wby xs B (VV xs B k) t c j ≤ mfN xs B (VV xs B k) t c d := mfN_le hj hbj
            omega
          · show (if (cand xs B k t c l).1 < (cand xs B k t c d).1 then _ else _) = _
            exact if_pos (by show wby xs B (VV xs B k) t c l < wby xs B (VV xs B k) t c d; omega)
        · refine Or.inr ⟨l, by omega, q2, by omega, fun j hj hbj => ?_, ?_⟩
          · have := q4 j hj hbj
            omega
          · show (if (cand xs B k t c l).1 < (cand xs B k t c d).1 then _ else _) = _
            exact if_neg (by show ¬ wby xs B (VV xs B k) t c l < wby xs B (VV xs B k) t c d; omega)
    · rw [if_neg hb, if_neg hb]
      rcases DD_inv (k := k) (t := t) (c := c) hO d (by omega) with ⟨q1, q2, q3⟩ | ⟨l, q1, q2, q3, q4, q5⟩
      · refine Or.inl ⟨fun l hl => ?_, q2, q3⟩
        rcases Nat.lt_or_ge l d with h | h
        · exact q1 l h
        · rw [show l = d by omega]; exact hb
      · exact Or.inr ⟨l, by omega, q2, q3, q4, q5⟩
theorem fstN_first {p : Nat → Bool} {l : Nat} (hp : p l = true) : ∀ (r i : Nat), i ≤ l → l < i + r → (∀ j, i ≤ j → j < l → ¬ p j = true) → fstN p r i = l
  | 0, i, h1, h2, _ => by omega
  | r + 1, i, h1, h2, h3 => by
    unfold fstN
    by_cases e : i = l
    · subst e
      exact if_pos hp
    · rw [if_neg (h3 i (Nat.le_refl _) (by omega))]
      exact fstN_first hp r (i + 1) (by omega) (by omega) (fun j a b => h3 j (by omega) b)
theorem DD_all {xs : List (Int × Int)} {B : Int → Int} {k : Nat} {t c : Int} (hO : OKL xs) (hb : ∃ l, l < xs.length ∧ bt t l = 0) : DD xs B k t c xs.length = some (VV xs B (k + 1) t c, ords xs B (k + 1) t c) := by
  rcases DD_inv (B := B) (k := k) (t := t) (c := c) hO xs.length (Nat.le_refl _) with ⟨q1, q2, q3⟩ | ⟨l, q1, q2, q3, q4, q5⟩
  · obtain ⟨l, h1, h2⟩ := hb
    exact absurd h2 (q1 l h1)
  · have hn : nxt xs B k t c = l := by
      unfold nxt
      refine fstN_first (p := fbp xs B (VV xs B k) t c (VV xs B (k + 1) t c)) ?_ _ _ (by omega) (by omega) (fun j _ hj hp => ?_)
      · unfold fbp
        rw [decide_eq_true q2, decide_eq_true (show wby xs B (VV xs B k) t c l = VV xs B (k + 1) t c from q3)]
        rfl
      · unfold fbp at hp
        rw [Bool.and_eq_true, decide_eq_true_eq, decide_eq_true_eq] at hp
        have h1 := q4 j hj hp.1
        have h2 : wby xs B (VV xs B k) t c j = mfN xs B (VV xs B k) t c xs.length := hp.2
        omega
    rw [q5]
    have e : ords xs B (k + 1) t c = (nxt xs B k t c : Int) :: ords xs B k (sb t (nxt xs B k t c)) (if lw xs (nxt xs B k t c) ≤ B c then c + 1 else c) := rfl
    rw [e, hn]
    unfold cand
    rw [q3]
    rfl
theorem app_ext {xs : List (Int × Int)} {B : Int → Int} {k d : Nat} {t : Int} {st : Int × List Int} {pre : List Int} {q : Int × Int} : appG st (pre ++ [(d : Int)]) (simS xs B q d).1 (some (VV xs B k (sb t d) (simS xs B q d).2, ords xs B k (sb t d) (simS xs B q d).2)) = appG st pre q.1 (some (cand xs B k t q.2 d)) := by
  unfold cand simS wby
  rw [Int.toNat_natCast]
  by_cases h : lw xs d ≤ B q.2
  · rw [if_pos h, if_pos h, if_pos h]
    show (if st.1 < q.1 + lv xs d + VV xs B k (sb t d) (q.2 + 1) then (q.1 + lv xs d + VV xs B k (sb t d) (q.2 + 1), pre ++ [(d : Int)] ++ ords xs B k (sb t d) (q.2 + 1)) else st) = if st.1 < q.1 + (lv xs d + VV xs B k (sb t d) (q.2 + 1)) then (q.1 + (lv xs d + VV xs B k (sb t d) (q.2 + 1)), pre ++ (d : Int) :: ords xs B k (sb t d) (q.2 + 1)) else st
    rw [Int.add_assoc, List.append_assoc]
    rfl
  · rw [if_neg h, if_neg h, if_neg h]
    show (if st.1 < q.1 + VV xs B k (sb t d) q.2 then (q.1 + VV xs B k (sb t d) q.2, pre ++ [(d : Int)] ++ ords xs B k (sb t d) q.2) else st) = if st.1 < q.1 + VV xs B k (sb t d) q.2 then (q.1 + VV xs B k (sb t d) q.2, pre ++ (d : Int) :: ords xs B k (sb t d) q.2) else st
    rw [List.append_assoc]
    rfl
theorem blk_good {xs : List (Int × Int)} {B : Int → Int} (hL : xs.length ≤ 6) (h0 : 1 ≤ xs.length) (hO : OKL xs) : ∀ (k j P : Nat) (st : Int × List Int), j + k = xs.length → pc6 (setL (dl xs.length j P) 0) = j → runN xs B st (P * xs.length ^ k) (xs.length ^ k) = appG st (dl xs.length j P) (sim xs B (dl xs.length j P) (0, 0)).1 (some (VV xs B k (setL (dl xs.length j P) 0) (sim xs B (dl xs.length j P) (0, 0)).2, ords xs B k (setL (dl xs.length j P) 0) (sim xs B (dl xs.length j P) (0, 0)).2))
  | 0, j, P, st, h1, h2 => by
    have h3 : j = xs.length := by omega
    subst h3
    have h4 := (qp2_dec xs.length (by omega)).2
    have hin := setL_in hL (dl xs.length xs.length P) 0 (dl_mem h0 _ P) (Int.le_refl 0) (by omega)
    have h5 := (qpc_dec xs.length (by omega) (setL (dl xs.length xs.length P) 0).toNat (by omega)).2.2.1
    rw [show (((setL (dl xs.length xs.length P) 0).toNat : Nat) : Int) = setL (dl xs.length xs.length P) 0 by omega] at h5
    show tryO xs B st (P * 1 + 0) = if st.1 < (sim xs B (dl xs.length xs.length P) (0, 0)).1 + 0 then ((sim xs B (dl xs.length xs.length P) (0, 0)).1 + 0, dl xs.length xs.length P ++ []) else st
    rw [Nat.mul_one, Nat.add_zero, Int.add_zero, List.append_nil]
    unfold tryO
    by_cases h : st.1 < (sim xs B (dl xs.length xs.length P) (0, 0)).1
    · rw [if_pos ⟨h5 h2, h⟩, if_pos h]
    · rw [if_neg (fun x => h x.2), if_neg h]
  | k + 1, j, P, st, h1, h2 => by
    have h4 := (qp2_dec xs.length (by omega)).2
    have hin := setL_in hL (dl xs.length j P) 0 (dl_mem h0 j P) (Int.le_refl 0) (by omega)
    have hd : ∀ d : Nat, d ≤ xs.length → runN xs B st (P * xs.length ^ (k + 1)) (d * xs.length ^ k) = appG st (dl xs.length j P) (sim xs B (dl xs.length j P) (0, 0)).1 (DD xs B k (setL (dl xs.length j P) 0) (sim xs B (dl xs.length j P) (0, 0)).2 d) := by
      intro d
      induction d with
      | zero => intro _; rw [Nat.zero_mul]; rfl
      | succ d ih =>
        intro hd
        have e2 : DD xs B k (setL (dl xs.length j P) 0) (sim xs B (dl xs.length j P) (0, 0)).2 (d + 1) = if bt (setL (dl xs.length j P) 0) d = 0 then betG (DD xs B k (setL (dl xs.length j P) 0) (sim xs B (dl xs.length j P) (0, 0)).2 d) (some (cand xs B k (setL (dl xs.length j P) 0) (sim xs B (dl xs.length j P) (0, 0)).2 d)) else DD xs B k (setL (dl xs.length j P) 0) (sim xs B (dl xs.length j P) (0, 0)).2 d := rfl
        have hs := sb_bd hL hin.1 hin.2 (l := d) (by omega)
        rw [Nat.succ_mul, runN_add, ih (by omega), blk_start, e2]
        by_cases hb : bt (setL (dl xs.length j P) 0) d = 0
        · rw [if_pos hb, blk_good hL h0 hO k (j + 1) (P * xs.length + d) _ (by omega) (by rw [dl_ext h0 j P d (by omega), setL_app, Int.toNat_natCast, hs.2.2.2 hb, h2]; omega), dl_ext h0 j P d (by omega), setL_app, sim_app, Int.toNat_natCast, app_ext, app_bet]
        · rw [if_neg hb]
          refine blk_bad hL h0 k (j + 1) (P * xs.length + d) _ (by omega) ?_
          rw [dl_ext h0 j P d (by omega), setL_app, Int.toNat_natCast, hs.2.1 hb]
          omega
    have := hd xs.length (Nat.le_refl _)
    have hbit := some_bit xs.length (by omega) (setL (dl xs.length j P) 0).toNat (by omega)
    rw [show (((setL (dl xs.length j P) 0).toNat : Nat) : Int) = setL (dl xs.length j P) 0 by omega] at hbit
    rw [DD_all hO (hbit (by omega)), Nat.mul_comm xs.length (xs.length ^ k), ← Nat.pow_succ] at this
    exact this
theorem best_run {xs : List (Int × Int)} {B : Int → Int} (hL : xs.length ≤ 6) (hO : OKL xs) (L0 : List Int) : runN xs B (-6, L0) 0 (xs.length ^ xs.length) = (VV xs B xs.length 0 0, ords xs B xs.length 0 0) := by
  by_cases h0 : 1 ≤ xs.length
  · have h := blk_good (B := B) hL h0 hO xs.length 0 0 (-6, L0) (by omega) (by show pc6 0 = 0; decide)
    rw [Nat.zero_mul] at h
    rw [h]
    have hv := VV_bd (B := B) hO xs.length 0 0
    show (if (-6 : Int) < 0 + VV xs B xs.length 0 0 then ((0 : Int) + VV xs B xs.length 0 0, [] ++ ords xs B xs.length 0 0) else (-6, L0)) = _
    rw [if_pos (by omega), Int.zero_add, List.nil_append]
  · have h1 : xs = [] := List.eq_nil_of_length_eq_zero (by omega)
    subst h1
    show tryO [] B (-6, L0) 0 = (0, [])
    unfold tryO
    exact if_pos ⟨by decide, by show (-6 : Int) < 0; decide⟩
