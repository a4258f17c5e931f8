/-! renewal: the ways, the fewest inches, the first of them -/
def bet (a b : Option (Int × List Int)) : Option (Int × List Int) := match a, b with
  | none, b => b
  | a, none => a
  | some x, some y => if y.1 < x.1 then some y else some x
def oOk (A : AB) (c : Nat) : Prop := c = 0 ∨ weaveZ A (((c - 1) / 4 : Nat) : Int) (((c - 1) % 4 : Nat) : Int) = 0
def oA (A : AB) (c : Nat) : AB := if c = 0 then weekA A else weekA (weaveR A (((c - 1) / 4 : Nat) : Int) (((c - 1) % 4 : Nat) : Int))
def oC (A : AB) (c : Nat) : Int := if c = 0 then 0 else aB A (((c - 1) / 4 : Nat) : Int)
def oGo (need : Int) (A : AB) (c : Nat) : Prop := oOk A c ∧ need ≤ bearsA (oA A c) 0
noncomputable def renO (f : AB → Option (Int × List Int)) (need : Int) (A : AB) (c : Nat) : Option (Int × List Int) := by
  classical
  exact if oGo need A c then (f (oA A c)).map (fun q => (oC A c + q.1, (c : Int) :: q.2)) else none
noncomputable def renN (f : AB → Option (Int × List Int)) (need : Int) (A : AB) : Nat → Option (Int × List Int)
  | 0 => none
  | n + 1 => bet (renN f need A n) (renO f need A n)
noncomputable def ren (need : Int) : Nat → AB → Option (Int × List Int)
  | 0 => fun _ => some (0, [])
  | k + 1 => fun A => renN (ren need k) need A 25
theorem renO_go {f : AB → Option (Int × List Int)} {need : Int} {A : AB} {c : Nat} (h : oGo need A c) : renO f need A c = (f (oA A c)).map (fun q => (oC A c + q.1, (c : Int) :: q.2)) := by
  unfold renO
  exact if_pos h
theorem renO_no {f : AB → Option (Int × List Int)} {need : Int} {A : AB} {c : Nat} (h : ¬ oGo need A c) : renO f need A c = none := by
  unfold renO
  exact if_neg h
/-- a way found, held against the best so far -/
def mrg (st : Int × List Int) (pre : List Int) (inc : Int) (r : Option (Int × List Int)) : Int × List Int := match r with
  | none => st
  | some q => if inc + q.1 < st.1 then (inc + q.1, pre ++ q.2) else st
theorem mrg_bet (st : Int × List Int) (pre : List Int) (inc : Int) (a b : Option (Int × List Int)) : mrg (mrg st pre inc a) pre inc b = mrg st pre inc (bet a b) := by
  cases a with
  | none => cases b <;> rfl
  | some x =>
    cases b with
    | none => rfl
    | some y =>
      show (if inc + y.1 < (if inc + x.1 < st.1 then (inc + x.1, pre ++ x.2) else st).1 then (inc + y.1, pre ++ y.2) else (if inc + x.1 < st.1 then (inc + x.1, pre ++ x.2) else st)) = mrg st pre inc (if y.1 < x.1 then some y else some x)
      by_cases h1 : inc + x.1 < st.1
      · rw [if_pos h1]
        by_cases h2 : y.1 < x.1
        · rw [if_pos h2, if_pos (by dsimp only; omega)]
          show _ = if inc + y.1 < st.1 then (inc + y.1, pre ++ y.2) else st
          rw [if_pos (by omega)]
        · rw [if_neg h2, if_neg (by dsimp only; omega)]
          show _ = if inc + x.1 < st.1 then (inc + x.1, pre ++ x.2) else st
          rw [if_pos h1]
      · rw [if_neg h1]
        by_cases h2 : y.1 < x.1
        · rw [if_pos h2]
          rfl
        · rw [if_neg h2]
          show _ = if inc + x.1 < st.1 then (inc + x.1, pre ++ x.2) else st
          rw [if_neg h1, if_neg (by omega)]
theorem mrg_map (st : Int × List Int) (pre : List Int) (inc d c : Int) (r : Option (Int × List Int)) : mrg st (pre ++ [c]) (inc + d) r = mrg st pre inc (r.map (fun q => (d + q.1, c :: q.2))) := by
  cases r with
  | none => rfl
  | some q =>
    show (if inc + d + q.1 < st.1 then (inc + d + q.1, pre ++ [c] ++ q.2) else st) = if inc + (d + q.1) < st.1 then (inc + (d + q.1), pre ++ c :: q.2) else st
    rw [Int.add_assoc, List.append_assoc]
    rfl
/-- ropes that lose -/
theorem lsN_R {x : Int} {A : AB} : ∀ (n : Nat) (r : Int), aR (lsN x A n) r = if 0 ≤ r ∧ r < n then loseL x (aR A r) else aR A r
  | 0, r => by rw [if_neg (by omega)]; rfl
  | n + 1, r => by
    have ih := lsN_R (x := x) (A := A) n
    show fu (aR (lsN x A n)) n (loseL x (aR (lsN x A n) n)) r = _
    by_cases e : r = n
    · subst e
      rw [fu_same, ih, if_neg (by omega), if_pos (by omega)]
    · rw [fu_ne e, ih]
      by_cases e2 : 0 ≤ r ∧ r < n
      · rw [if_pos e2, if_pos (by omega)]
      · rw [if_neg e2, if_neg (by omega)]
theorem setWk_S (A : AB) (v : Int) : aS (setWk A v) = aS A := rfl
theorem setWk_B (A : AB) (v : Int) : aB (setWk A v) = aB A := rfl
theorem setWk_H (A : AB) (v : Int) : aH (setWk A v) = aH A := rfl
theorem setWk_R (A : AB) (v : Int) : aR (setWk A v) = aR A := rfl
theorem setWk_wr (A : AB) (v : Int) : aWr (setWk A v) = aWr A := rfl
theorem weekA_R {A : AB} {r : Int} (h1 : 0 ≤ r) (h2 : r < 4) : aR (weekA A) r = loseL (aWr A) (aR A r) := by
  have h := congrFun (setWk_R (lsA (aWr A) A) (aWk A + 1)) r
  have h3 := lsN_R (x := aWr A) (A := A) 4 r
  rw [if_pos ⟨h1, h2⟩] at h3
  exact h.trans h3
theorem weekA_S (A : AB) : aS (weekA A) = aS A := (setWk_S _ _).trans (lsN_S 4)
theorem lsN_B {x : Int} {A : AB} : ∀ n : Nat, aB (lsN x A n) = aB A
  | 0 => rfl
  | n + 1 => lsN_B n
theorem lsN_H {x : Int} {A : AB} : ∀ n : Nat, aH (lsN x A n) = aH A
  | 0 => rfl
  | n + 1 => lsN_H n
theorem weekA_B (A : AB) : aB (weekA A) = aB A := (setWk_B _ _).trans (lsN_B 4)
theorem weekA_H (A : AB) : aH (weekA A) = aH A := (setWk_H _ _).trans (lsN_H 4)
theorem weekA_wr (A : AB) : aWr (weekA A) = aWr A := (setWk_wr _ _).trans (lsN_wr 4)
theorem loseL_comp : ∀ {L : List Lk} {x y : Int}, 0 ≤ x → 0 ≤ y → (∀ l ∈ L, okL l) → loseL y (loseL x L) = loseL (x + y) L
  | [], _, _, _, _, _ => rfl
  | l :: r, x, y, hx, hy, h => by
    have h1 := h l List.mem_cons_self
    have h2 : ∀ q ∈ r, okL q := fun q hq => h q (List.mem_cons_of_mem _ hq)
    unfold okL at h1
    show loseL y (if l.2.1 ≤ x then loseL (x - l.2.1) r else (l.1, l.2.1 - x, l.2.2) :: r) = (if l.2.1 ≤ x + y then loseL (x + y - l.2.1) r else (l.1, l.2.1 - (x + y), l.2.2) :: r)
    by_cases e : l.2.1 ≤ x
    · rw [if_pos e, if_pos (by omega), loseL_comp (by omega) hy h2]
      congr 1
      omega
    · rw [if_neg e]
      show (if l.2.1 - x ≤ y then loseL (y - (l.2.1 - x)) r else (l.1, l.2.1 - x - y, l.2.2) :: r) = _
      by_cases e2 : l.2.1 ≤ x + y
      · rw [if_pos (by omega), if_pos e2]
        congr 1
        omega
      · rw [if_neg (by omega), if_neg e2]
        congr 2
        congr 1
        omega
theorem powL_app {st : Int → Int} {l : Lk} (hl : okL l) : ∀ {L : List Lk} {x : Int}, 0 ≤ x → (∀ q ∈ L, okL q) → powL st (loseL x (L ++ [l])) = powL st (loseL x L) + max 0 (l.2.1 - max 0 (x - lenL L)) * st l.1
  | [], x, hx, _ => by
    unfold okL at hl
    show powL st (if l.2.1 ≤ x then loseL (x - l.2.1) [] else [(l.1, l.2.1 - x, l.2.2)]) = 0 + max 0 (l.2.1 - max 0 (x - 0)) * st l.1
    by_cases e : l.2.1 ≤ x
    · rw [if_pos e, show max 0 (l.2.1 - max 0 (x - 0)) = 0 by omega, Int.zero_mul]; rfl
    · rw [if_neg e, show max 0 (l.2.1 - max 0 (x - 0)) = l.2.1 - x by omega]
      show (l.2.1 - x) * st l.1 + 0 = _
      omega
  | q :: r, x, hx, h => by
    have h1 := h q List.mem_cons_self
    have h2 : ∀ q ∈ r, okL q := fun q hq => h q (List.mem_cons_of_mem _ hq)
    unfold okL at h1
    have hlen := lenL_bd h2
    show powL st (if q.2.1 ≤ x then loseL (x - q.2.1) (r ++ [l]) else (q.1, q.2.1 - x, q.2.2) :: (r ++ [l])) = powL st (if q.2.1 ≤ x then loseL (x - q.2.1) r else (q.1, q.2.1 - x, q.2.2) :: r) + max 0 (l.2.1 - max 0 (x - (q.2.1 + lenL r))) * st l.1
    by_cases e : q.2.1 ≤ x
    · rw [if_pos e, if_pos e, powL_app hl (by omega) h2, show x - q.2.1 - lenL r = x - (q.2.1 + lenL r) by omega]
    · rw [if_neg e, if_neg e]
      have h3 := powL_app (st := st) hl (L := r) (x := 0) (by omega) h2
      rw [loseL_zero h2, loseL_zero (L := r ++ [l]) (fun z hz => by rcases List.mem_append.mp hz with hz | hz; exact h2 z hz; rw [List.mem_singleton.mp hz]; exact hl)] at h3
      show (q.2.1 - x) * st q.1 + powL st (r ++ [l]) = (q.2.1 - x) * st q.1 + powL st r + _
      rw [h3, show max 0 (0 - lenL r) = max 0 (x - (q.2.1 + lenL r)) by omega]
      omega
theorem bears_week {A : AB} (h : WA A) : bearsA (weekA A) 0 = bearsA A (aWr A) := by
  unfold bearsA
  refine gl_congr (fun i h1 h2 => ?_)
  rw [weekA_S, weekA_R h1 h2, loseL_zero ((h.2.2.2.1 i h1 h2).lose h.2.2.2.2.1).2]
/-- the abbey with a lock woven in, a week later -/
theorem bears_weave {A : AB} {m r : Int} (h : WA A) (hm1 : 0 ≤ m) (hm2 : m < 6) (hr1 : 0 ≤ r) (hr2 : r < 4) (hz : weaveZ A m r = 0) : bearsA (weekA (weaveR A m r)) 0 = gl (fu (fun q => powL (aS A) (loseL (aWr A) (aR A q))) r (powL (aS A) (loseL (aWr A) (aR A r)) + max 0 (aB A m - max 0 (aWr A - lenL (aR A r))) * aS A m)) := by
  have hW2 := WA_weaveR h hm1 hm2 hr1 hr2
  rw [bears_week hW2]
  have hb := h.2.2.1 m hm1 hm2
  have e1 : ¬ aB A m = 0 ∧ ¬ 8 ≤ (aR A r).length := by
    unfold weaveZ at hz
    by_cases a : aB A m = 0
    · rw [if_pos a] at hz; omega
    · rw [if_neg a] at hz
      by_cases b : 8 ≤ (aR A r).length
      · rw [if_pos b] at hz; omega
      · exact ⟨a, b⟩
  have e2 : weaveR A m r = setB (setR A r (aR A r ++ [(m, aB A m, aWk A)])) m 0 := by
    unfold weaveR
    rw [if_neg e1.1, if_neg e1.2]
  rw [e2]
  unfold bearsA
  refine gl_congr (fun i h1 h2 => ?_)
  show powL (aS A) (loseL (aWr A) (fu (aR A) r (aR A r ++ [(m, aB A m, aWk A)]) i)) = _
  by_cases ei : i = r
  · subst ei
    rw [fu_same, fu_same]
    exact powL_app (st := aS A) (l := (m, aB A m, aWk A)) ⟨hm1, hm2, by show 1 ≤ aB A m; omega, hb.2⟩ h.2.2.2.2.1 (h.2.2.2.1 i h1 h2).2
  · rw [fu_ne ei, fu_ne ei]
/-! no hope -/
def sumN (P : Int → Int) : Nat → Int
  | 0 => 0
  | n + 1 => sumN P n + P n
theorem cge_sum {P : Int → Int} {w : Int} (hw : 0 ≤ w) : ∀ n : Nat, (∀ i : Int, 0 ≤ i → i < n → 0 ≤ P i) → cge P w n * w ≤ sumN P n
  | 0, _ => by simp [cge, sumN]
  | n + 1, h => by
    have ih := cge_sum (P := P) hw n (fun i h1 h2 => h i h1 (by omega))
    have hn := h n (by omega) (by omega)
    show (cge P w n + if w ≤ P (n : Int) then 1 else 0) * w ≤ sumN P n + P n
    rw [Int.add_mul]
    split
    · rw [Int.one_mul]; omega
    · rw [Int.zero_mul]; omega
theorem sumN_nn {P : Int → Int} : ∀ n : Nat, (∀ i : Int, 0 ≤ i → i < n → 0 ≤ P i) → 0 ≤ sumN P n
  | 0, _ => Int.le_refl 0
  | n + 1, h => by
    have := sumN_nn (P := P) n (fun i h1 h2 => h i h1 (by omega))
    have := h n (by omega) (by omega)
    show 0 ≤ sumN P n + P n
    omega
theorem glr_sum {P : Int → Int} (h : ∀ i : Int, 0 ≤ i → i < 4 → 0 ≤ P i) : ∀ n : Nat, n ≤ 4 → glr P n ≤ sumN P 4
  | 0, _ => sumN_nn 4 h
  | n + 1, hn => by
    have h1 := glr_sum h n (by omega)
    have h2 := cge_sum (P := P) (w := P n) (h n (by omega) (by omega)) 4 h
    show max (glr P n) (cge P (P (n : Int)) 4 * P (n : Int)) ≤ _
    omega
def tk (A : AB) : List Int → Nat → Int
  | [], _ => 0
  | _ :: _, 0 => 0
  | m :: r, k + 1 => if 0 < aB A m then aB A m * aS A m + tk A r k else tk A r (k + 1)
def hopT (A : AB) (od : List Int) (k : Nat) : Int := sumN (fun r => powL (aS A) (loseL (aWr A * k) (aR A r))) 4 + tk A od k
def PO (A : AB) (od : List Int) : Prop := od.Nodup ∧ (∀ m ∈ od, 0 ≤ m ∧ m < 6) ∧ (∀ m : Int, 0 ≤ m → m < 6 → m ∈ od) ∧ List.Pairwise (fun x y => 0 < aB A x → 0 < aB A y → aB A y * aS A y ≤ aB A x * aS A x) od
theorem tk_nn {A : AB} (h : WA A) : ∀ {od : List Int} {k : Nat}, (∀ m ∈ od, 0 ≤ m ∧ m < 6) → 0 ≤ tk A od k
  | [], _, _ => Int.le_refl 0
  | _ :: _, 0, _ => Int.le_refl 0
  | m :: r, k + 1, ho => by
    have h1 := ho m List.mem_cons_self
    have h2 := h.2.1 m h1.1 h1.2
    have h3 := tk_nn h (od := r) (k := k) (fun q hq => ho q (List.mem_cons_of_mem _ hq))
    have h4 := tk_nn h (od := r) (k := k + 1) (fun q hq => ho q (List.mem_cons_of_mem _ hq))
    unfold tk
    split
    · have : 0 ≤ aB A m * aS A m := Int.mul_nonneg (by omega) h2.1
      omega
    · exact h4
theorem tk_mono {A : AB} (h : WA A) : ∀ {od : List Int} {k : Nat}, (∀ m ∈ od, 0 ≤ m ∧ m < 6) → tk A od k ≤ tk A od (k + 1)
  | [], _, _ => Int.le_refl 0
  | m :: r, 0, ho => tk_nn h ho
  | m :: r, k + 1, ho => by
    have h3 := tk_mono h (od := r) (k := k) (fun q hq => ho q (List.mem_cons_of_mem _ hq))
    have h4 := tk_mono h (od := r) (k := k + 1) (fun q hq => ho q (List.mem_cons_of_mem _ hq))
    unfold tk
    split
    · omega
    · exact h4
theorem tk_zero (A : AB) (od : List Int) : tk A od 0 = 0 := by cases od <;> rfl
theorem tk_cong {A A' : AB} : ∀ {od : List Int} {k : Nat}, (∀ q ∈ od, aB A' q = aB A q ∧ aS A' q = aS A q) → tk A' od k = tk A od k
  | [], _, _ => rfl
  | _ :: _, 0, _ => rfl
  | q :: r, k + 1, h => by
    have h1 := h q List.mem_cons_self
    show (if 0 < aB A' q then aB A' q * aS A' q + tk A' r k else tk A' r (k + 1)) = (if 0 < aB A q then aB A q * aS A q + tk A r k else tk A r (k + 1))
    rw [h1.1, h1.2, tk_cong (k := k) (fun z hz => h z (List.mem_cons_of_mem _ hz)), tk_cong (k := k + 1) (fun z hz => h z (List.mem_cons_of_mem _ hz))]
/-- one that was woven in, and the best of the rest -/
theorem tk_take {A A' : AB} {m : Int} (h : WA A) (hS : ∀ q, aS A' q = aS A q) (hB : ∀ q, aB A' q = if q = m then 0 else aB A q) (hm : 0 < aB A m) : ∀ {od : List Int} {k : Nat}, (∀ q ∈ od, 0 ≤ q ∧ q < 6) → od.Nodup → m ∈ od → List.Pairwise (fun x y => 0 < aB A x → 0 < aB A y → aB A y * aS A y ≤ aB A x * aS A x) od → tk A' od k + aB A m * aS A m ≤ tk A od (k + 1)
  | [], _, _, _, hmem, _ => by cases hmem
  | q :: r, k, ho, hnd, hmem, hp => by
    obtain ⟨hp1, hp2⟩ := List.pairwise_cons.mp hp
    obtain ⟨hn1, hn2⟩ := List.nodup_cons.mp hnd
    have ho2 : ∀ z ∈ r, 0 ≤ z ∧ z < 6 := fun z hz => ho z (List.mem_cons_of_mem _ hz)
    by_cases e : q = m
    · subst e
      have h1 : tk A (q :: r) (k + 1) = aB A q * aS A q + tk A r k := if_pos hm
      rw [h1]
      cases k with
      | zero =>
        rw [tk_zero, tk_zero]
        omega
      | succ k =>
        have h2 : tk A' (q :: r) (k + 1) = tk A' r (k + 1) := if_neg (by rw [hB, if_pos rfl]; omega)
        have h3 : tk A' r (k + 1) = tk A r (k + 1) := tk_cong (fun z hz => ⟨(hB z).trans (if_neg (fun h : z = q => hn1 (h ▸ hz))), hS z⟩)
        rw [h2, h3]
        omega
    · have hmr : m ∈ r := by
        cases hmem with
        | head => exact absurd rfl e
        | tail _ h => exact h
      have hBq : aB A' q = aB A q := by rw [hB, if_neg e]
      cases k with
      | zero =>
        rw [tk_zero]
        have ih := tk_take h hS hB hm (od := r) (k := 0) ho2 hn2 hmr hp2
        rw [tk_zero] at ih
        show 0 + aB A m * aS A m ≤ (if 0 < aB A q then aB A q * aS A q + tk A r 0 else tk A r 1)
        by_cases eq : 0 < aB A q
        · rw [if_pos eq, tk_zero]
          have := hp1 m hmr eq hm
          omega
        · rw [if_neg eq]
          exact ih
      | succ k =>
        have ih1 := tk_take h hS hB hm (od := r) (k := k) ho2 hn2 hmr hp2
        have ih2 := tk_take h hS hB hm (od := r) (k := k + 1) ho2 hn2 hmr hp2
        show (if 0 < aB A' q then aB A' q * aS A' q + tk A' r k else tk A' r (k + 1)) + aB A m * aS A m ≤ (if 0 < aB A q then aB A q * aS A q + tk A r (k + 1) else tk A r (k + 1 + 1))
        rw [hBq, hS]
        split <;> omega
theorem weaveZ_ok {A : AB} {m r : Int} (hz : weaveZ A m r = 0) : ¬ aB A m = 0 ∧ ¬ 8 ≤ (aR A r).length := by
  unfold weaveZ at hz
  by_cases a : aB A m = 0
  · rw [if_pos a] at hz; omega
  · rw [if_neg a] at hz
    by_cases b : 8 ≤ (aR A r).length
    · rw [if_pos b] at hz; omega
    · exact ⟨a, b⟩
theorem weaveR_ok {A : AB} {m r : Int} (hz : weaveZ A m r = 0) : weaveR A m r = setB (setR A r (aR A r ++ [(m, aB A m, aWk A)])) m 0 := by
  have e1 := weaveZ_ok hz
  unfold weaveR
  rw [if_neg e1.1, if_neg e1.2]
theorem WA_oA {A : AB} {c : Nat} (h : WA A) (hc : c < 25) : WA (oA A c) := by
  unfold oA
  split
  · exact WA_weekA h
  · exact WA_weekA (WA_weaveR h (by omega) (by omega) (by omega) (by omega))
theorem oA_S {A : AB} {c : Nat} (h : oOk A c) : aS (oA A c) = aS A := by
  unfold oA
  by_cases e : c = 0
  · rw [if_pos e, weekA_S]
  · rw [if_neg e, weekA_S, weaveR_ok (h.resolve_left e)]
    rfl
theorem oA_wr {A : AB} {c : Nat} (h : oOk A c) : aWr (oA A c) = aWr A := by
  unfold oA
  by_cases e : c = 0
  · rw [if_pos e, weekA_wr]
  · rw [if_neg e, weekA_wr, weaveR_ok (h.resolve_left e)]
    rfl
theorem oA_B0 {A : AB} : aB (oA A 0) = aB A := by
  unfold oA
  rw [if_pos rfl, weekA_B]
theorem oA_B {A : AB} {c : Nat} (h : oOk A c) (e : c ≠ 0) (q : Int) : aB (oA A c) q = if q = (((c - 1) / 4 : Nat) : Int) then 0 else aB A q := by
  unfold oA
  rw [if_neg e, weekA_B, weaveR_ok (h.resolve_left e)]
  rfl
theorem sumN_cong {P Q : Int → Int} : ∀ n : Nat, (∀ i : Int, 0 ≤ i → i < n → P i = Q i) → sumN P n = sumN Q n
  | 0, _ => rfl
  | n + 1, h => by
    show sumN P n + P n = sumN Q n + Q n
    rw [sumN_cong n (fun i h1 h2 => h i h1 (by omega)), h n (by omega) (by omega)]
theorem sumN_one {P Q : Int → Int} {r d : Int} (hr : ∀ i : Int, i ≠ r → P i = Q i) (hd : P r ≤ Q r + d) (d0 : 0 ≤ d) : ∀ n : Nat, sumN P n ≤ sumN Q n + d ∧ ((n : Int) ≤ r → sumN P n = sumN Q n)
  | 0 => ⟨by show (0 : Int) ≤ 0 + d; omega, fun _ => rfl⟩
  | n + 1 => by
    have ih := sumN_one hr hd d0 n
    show sumN P n + P n ≤ sumN Q n + Q n + d ∧ (((n + 1 : Nat) : Int) ≤ r → sumN P n + P n = sumN Q n + Q n)
    by_cases e : (n : Int) = r
    · subst e
      have := ih.2 (by omega)
      exact ⟨by omega, fun h => by omega⟩
    · have := hr n e
      exact ⟨by omega, fun h => by have := ih.2 (by omega); omega⟩
theorem hop_step {A : AB} {od : List Int} {c k : Nat} (h : WA A) (hp : PO A od) (hc : c < 25) (hok : oOk A c) : hopT (oA A c) od k ≤ hopT A od (k + 1) ∧ PO (oA A c) od := by
  have hwr := h.2.2.2.2.1
  have hk : 0 ≤ aWr A * k := Int.mul_nonneg hwr (by omega)
  have hmul : aWr A * ((k + 1 : Nat) : Int) = aWr A + aWr A * k := by rw [Int.natCast_add, Int.mul_add]; omega
  by_cases e : c = 0
  · subst e
    constructor
    · unfold hopT
      have h1 : sumN (fun r => powL (aS (oA A 0)) (loseL (aWr (oA A 0) * k) (aR (oA A 0) r))) 4 = sumN (fun r => powL (aS A) (loseL (aWr A * ((k + 1 : Nat) : Int)) (aR A r))) 4 := by
        refine sumN_cong 4 (fun i h1 h2 => ?_)
        try dsimp only
        rw [oA_S hok, oA_wr hok]
        have : aR (oA A 0) i = loseL (aWr A) (aR A i) := by
          unfold oA
          rw [if_pos rfl, weekA_R h1 (by omega)]
        rw [this, loseL_comp hwr hk (h.2.2.2.1 i h1 (by omega)).2, hmul]
      rw [h1]
      have h2 : tk (oA A 0) od k = tk A od k := tk_cong (fun q _ => ⟨by rw [oA_B0], by rw [oA_S hok]⟩)
      have h3 := tk_mono h (od := od) (k := k) hp.2.1
      omega
    · refine ⟨hp.1, hp.2.1, hp.2.2.1, ?_⟩
      rw [oA_B0, oA_S hok]
      exact hp.2.2.2
  · have hz := hok.resolve_left e
    have hw := weaveZ_ok hz
    have hm1 : (0 : Int) ≤ (((c - 1) / 4 : Nat) : Int) := by omega
    have hm2 : (((c - 1) / 4 : Nat) : Int) < 6 := by omega
    have hr1 : (0 : Int) ≤ (((c - 1) % 4 : Nat) : Int) := by omega
    have hr2 : (((c - 1) % 4 : Nat) : Int) < 4 := by omega
    have hBo := oA_B hok e
    have hAR : ∀ i : Int, 0 ≤ i → i < 4 → aR (oA A c) i = loseL (aWr A) (fu (aR A) (((c - 1) % 4 : Nat) : Int) (aR A (((c - 1) % 4 : Nat) : Int) ++ [((((c - 1) / 4 : Nat) : Int), aB A (((c - 1) / 4 : Nat) : Int), aWk A)]) i) := by
      intro i h1 h2
      unfold oA
      rw [if_neg e, weekA_R h1 h2, weaveR_ok hz]
      rfl
    generalize (((c - 1) / 4 : Nat) : Int) = m at *
    generalize (((c - 1) % 4 : Nat) : Int) = r at *
    have hbm := h.2.2.1 m hm1 hm2
    have hsm := h.2.1 m hm1 hm2
    have hl : okL (m, aB A m, aWk A) := ⟨hm1, hm2, by show 1 ≤ aB A m; omega, hbm.2⟩
    constructor
    · unfold hopT
      have h1 : sumN (fun r => powL (aS (oA A c)) (loseL (aWr (oA A c) * k) (aR (oA A c) r))) 4 = sumN (fu (fun r => powL (aS A) (loseL (aWr A * ((k + 1 : Nat) : Int)) (aR A r))) r (powL (aS A) (loseL (aWr A * ((k + 1 : Nat) : Int)) (aR A r ++ [(m, aB A m, aWk A)])))) 4 := by
        refine sumN_cong 4 (fun i h1 h2 => ?_)
        try dsimp only
        rw [oA_S hok, oA_wr hok, hAR i h1 (by omega)]
        by_cases ei : i = r
        · subst ei
          rw [fu_same, fu_same, loseL_comp hwr hk, hmul]
          intro z hz
          rcases List.mem_append.mp hz with hz | hz
          · exact (h.2.2.2.1 i h1 (by omega)).2 z hz
          · rw [List.mem_singleton.mp hz]; exact hl
        · rw [fu_ne ei, fu_ne ei, loseL_comp hwr hk (h.2.2.2.1 i h1 (by omega)).2, hmul]
      rw [h1]
      have hx0 : 0 ≤ aWr A * ((k + 1 : Nat) : Int) := by omega
      have h2 : powL (aS A) (loseL (aWr A * ((k + 1 : Nat) : Int)) (aR A r ++ [(m, aB A m, aWk A)])) ≤ powL (aS A) (loseL (aWr A * ((k + 1 : Nat) : Int)) (aR A r)) + aB A m * aS A m := by
        rw [powL_app (st := aS A) hl hx0 (h.2.2.2.1 r hr1 hr2).2]
        have : max 0 (aB A m - max 0 (aWr A * ((k + 1 : Nat) : Int) - lenL (aR A r))) * aS A m ≤ aB A m * aS A m := Int.mul_le_mul_of_nonneg_right (by omega) hsm.1
        exact Int.add_le_add_left this _
      have h3 := (sumN_one (P := fu (fun r => powL (aS A) (loseL (aWr A * ((k + 1 : Nat) : Int)) (aR A r))) r (powL (aS A) (loseL (aWr A * ((k + 1 : Nat) : Int)) (aR A r ++ [(m, aB A m, aWk A)])))) (Q := fun r => powL (aS A) (loseL (aWr A * ((k + 1 : Nat) : Int)) (aR A r))) (r := r) (d := aB A m * aS A m) (fun i hi => fu_ne hi) (by rw [fu_same]; exact h2) (Int.mul_nonneg hbm.1 hsm.1) 4).1
      have h4 := tk_take (A' := oA A c) h (fun q => by rw [oA_S hok]) hBo (by omega) (od := od) (k := k) hp.2.1 hp.1 (hp.2.2.1 m hm1 hm2) hp.2.2.2
      omega
    · refine ⟨hp.1, hp.2.1, hp.2.2.1, hp.2.2.2.imp (fun {x y} hxy h1 h2 => ?_)⟩
      rw [oA_S hok]
      rw [hBo] at h1
      rw [hBo] at h2
      rw [hBo, hBo]
      by_cases ex : x = m
      · rw [if_pos ex] at h1; omega
      · by_cases ey : y = m
        · rw [if_pos ey] at h2; omega
        · rw [if_neg ex] at h1
          rw [if_neg ey] at h2
          rw [if_neg ex, if_neg ey]
          exact hxy h1 h2
theorem bears_hop {A : AB} {od : List Int} (h : WA A) : bearsA A 0 ≤ hopT A od 0 := by
  unfold hopT
  rw [tk_zero, show aWr A * ((0 : Nat) : Int) = 0 by simp]
  have := glr_sum (P := fun r => powL (aS A) (loseL 0 (aR A r))) (fun i h1 h2 => (powL_bd (fun m h3 h4 => h.2.1 m h3 h4) ((h.2.2.2.1 i h1 h2).lose (Int.le_refl 0)).2).1) 4 (Nat.le_refl 4)
  show glr _ 4 ≤ _
  omega
theorem renN_none {f : AB → Option (Int × List Int)} {need : Int} {A : AB} : ∀ n : Nat, (∀ c, c < n → renO f need A c = none) → renN f need A n = none
  | 0, _ => rfl
  | n + 1, h => by
    show bet (renN f need A n) (renO f need A n) = none
    rw [renN_none n (fun c hc => h c (by omega)), h n (by omega)]
    rfl
theorem hop_none {need : Int} {od : List Int} : ∀ {k : Nat} {A : AB}, WA A → PO A od → hopT A od (k + 1) < need → ren need (k + 1) A = none
  | 0, A, h, hp, hh => by
    refine renN_none 25 (fun c hc => renO_no (fun hg => ?_))
    have h1 := hop_step (k := 0) h hp hc hg.1
    have h2 := bears_hop (od := od) (WA_oA h hc)
    have := hg.2
    have h3 := h1.1
    omega
  | k + 1, A, h, hp, hh => by
    refine renN_none 25 (fun c hc => ?_)
    by_cases hg : oGo need A c
    · have h1 := hop_step (k := k + 1) h hp hc hg.1
      rw [renO_go hg, hop_none (WA_oA h hc) h1.2 (by have := h1.1; omega)]
      rfl
    · exact renO_no hg
theorem bet_some {a b : Option (Int × List Int)} {q : Int × List Int} (h : bet a b = some q) : a = some q ∨ b = some q := by
  cases a with
  | none => exact Or.inr h
  | some x =>
    cases b with
    | none => exact Or.inl h
    | some y =>
      have h' : (if y.1 < x.1 then some y else some x) = some q := h
      split at h'
      · exact Or.inr h'
      · exact Or.inl h'
theorem renN_some {f : AB → Option (Int × List Int)} {need : Int} {A : AB} {q : Int × List Int} : ∀ n : Nat, renN f need A n = some q → ∃ c, c < n ∧ renO f need A c = some q
  | 0, h => by cases h
  | n + 1, h => by
    rcases bet_some h with h | h
    · obtain ⟨c, h1, h2⟩ := renN_some n h
      exact ⟨c, by omega, h2⟩
    · exact ⟨n, by omega, h⟩
/-- inches never come to more than the basket has -/
theorem ren_bd {need : Int} : ∀ {k : Nat} {A : AB} {q : Int × List Int}, WA A → ren need k A = some q → 0 ≤ q.1 ∧ q.1 ≤ sumN (aB A) 6 ∧ q.2.length = k ∧ ∀ z ∈ q.2, 0 ≤ z ∧ z < 25
  | 0, A, q, h, hq => by
    have e : (0, []) = q := Option.some.inj hq
    subst e
    exact ⟨Int.le_refl 0, sumN_nn 6 (fun i h1 h2 => (h.2.2.1 i h1 h2).1), rfl, fun z hz => by cases hz⟩
  | k + 1, A, q, h, hq => by
    obtain ⟨c, hc, hr⟩ := renN_some 25 hq
    by_cases hg : oGo need A c
    · rw [renO_go hg] at hr
      cases hf : ren need k (oA A c) with
      | none => rw [hf] at hr; cases hr
      | some p =>
        rw [hf] at hr
        have e : (oC A c + p.1, (c : Int) :: p.2) = q := Option.some.inj hr
        subst e
        have ih := ren_bd (WA_oA h hc) hf
        have hm : 0 ≤ oC A c ∧ oC A c + sumN (aB (oA A c)) 6 ≤ sumN (aB A) 6 := by
          by_cases e : c = 0
          · subst e
            rw [oA_B0]
            exact ⟨Int.le_refl 0, by show (0 : Int) + _ ≤ _; omega⟩
          · have hBo := oA_B hg.1 e
            have hb := h.2.2.1 (((c - 1) / 4 : Nat) : Int) (by omega) (by omega)
            have hoC : oC A c = aB A (((c - 1) / 4 : Nat) : Int) := if_neg e
            rw [hoC]
            refine ⟨hb.1, ?_⟩
            have hlt : (((c - 1) / 4 : Nat) : Int) < 6 := by omega
            have hge : (0 : Int) ≤ (((c - 1) / 4 : Nat) : Int) := by omega
            generalize (((c - 1) / 4 : Nat) : Int) = m at *
            show aB A m + (0 + aB (oA A c) 0 + aB (oA A c) 1 + aB (oA A c) 2 + aB (oA A c) 3 + aB (oA A c) 4 + aB (oA A c) 5) ≤ 0 + aB A 0 + aB A 1 + aB A 2 + aB A 3 + aB A 4 + aB A 5
            rw [hBo, hBo, hBo, hBo, hBo, hBo]
            have : m = 0 ∨ m = 1 ∨ m = 2 ∨ m = 3 ∨ m = 4 ∨ m = 5 := by omega
            rcases this with e | e | e | e | e | e <;> subst e <;> simp <;> omega
        refine ⟨by show 0 ≤ oC A c + p.1; omega, by show oC A c + p.1 ≤ _; omega, by show p.2.length + 1 = k + 1; omega, fun z hz => ?_⟩
        rcases List.mem_cons.mp hz with hz | hz
        · subst hz; omega
        · exact ih.2.2.2 z hz
    · rw [renO_no hg] at hr; cases hr
theorem ren_lt {need : Int} {k : Nat} {A : AB} {q : Int × List Int} (h : WA A) (hq : ren need k A = some q) : 0 ≤ q.1 ∧ q.1 < 595 := by
  have h1 := ren_bd h hq
  have h2 : sumN (aB A) 6 = 0 + aB A 0 + aB A 1 + aB A 2 + aB A 3 + aB A 4 + aB A 5 := rfl
  have a0 := h.2.2.1 0 (by omega) (by omega)
  have a1 := h.2.2.1 1 (by omega) (by omega)
  have a2 := h.2.2.1 2 (by omega) (by omega)
  have a3 := h.2.2.1 3 (by omega) (by omega)
  have a4 := h.2.2.1 4 (by omega) (by omega)
  have a5 := h.2.2.1 5 (by omega) (by omega)
  omega
