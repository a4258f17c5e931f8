/-! renewal: the ways, the fewest inches, the first of them -/
def bet (a b : Option (Int × List Int)) : Option (Int × List Int) := match a, b with
  | none, b => b
  | a, none => a
  | some x, some y => if y.1 < x.1 then some y else some x
def oOk (A : AB) (c : Nat) : Prop := c = 0 ∨ weaveZ A (((c - 1) / 4 : Nat) : Int) (((c - 1) % 4 : Nat) : Int) = 0
def oA (A : AB) (c : Nat) : AB := if c = 0 then weekA A else weekA (weaveR A (((c - 1) / 4 : Nat) : Int) (((c - 1) % 4 : Nat) : Int))
def oC (A : AB) (c : Nat) : Int := if c = 0 then 0 else aB A (((c - 1) / 4 : Nat) : Int)
def oGo (need : Int) (A : AB) (c : Nat) : Prop := oOk A c ∧ need ≤ bearsA (oA A c) 0
noncomputable def renO (f : AB → Option (Int × List Int)) (need : Int) (A : AB) (c : Nat) : Option (Int × List Int) := by
  classical
  exact if oGo need A c then (f (oA A c)).map (fun q => (oC A c + q.1, (c : Int) :: q.2)) else none
noncomputable def renN (f : AB → Option (Int × List Int)) (need : Int) (A : AB) : Nat → Option (Int × List Int)
  | 0 => none
  | n + 1 => bet (renN f need A n) (renO f need A n)
noncomputable def ren (need : Int) : Nat → AB → Option (Int × List Int)
  | 0 => fun _ => some (0, [])
  | k + 1 => fun A => renN (ren need k) need A 25
theorem renO_go {f : AB → Option (Int × List Int)} {need : Int} {A : AB} {c : Nat} (h : oGo need A c) : renO f need A c = (f (oA A c)).map (fun q => (oC A c + q.1, (c : Int) :: q.2)) := by
  unfold renO
  exact if_pos h
theorem renO_no {f : AB → Option (Int × List Int)} {need : Int} {A : AB} {c : Nat} (h : ¬ oGo need A c) : renO f need A c = none := by
  unfold renO
  exact if_neg h
/-- a way found, held against the best so far -/
def mrg (st : Int × List Int) (pre : List Int) (inc : Int) (r : Option (Int × List Int)) : Int × List Int := match r with
  | none => st
  | some q => if inc + q.1 < st.1 then (inc + q.1, pre ++ q.2) else st
theorem mrg_bet (st : Int × List Int) (pre : List Int) (inc : Int) (a b : Option (Int × List Int)) : mrg (mrg st pre inc a) pre inc b = mrg st pre inc (bet a b) := by
  cases a with
  | none => cases b <;> rfl
  | some x =>
    cases b with
    | none => rfl
    | some y =>
      show (if inc + y.1 < (if inc + x.1 < st.1 then (inc + x.1, pre ++ x.2) else st).1 then (inc + y.1, pre ++ y.2) else (if inc + x.1 < st.1 then (inc + x.1, pre ++ x.2) else st)) = mrg st pre inc (if y.1 < x.1 then some y else some x)
      by_cases h1 : inc + x.1 < st.1
      · rw [if_pos h1]
        by_cases h2 : y.1 < x.1
        · rw [if_pos h2, if_pos (by dsimp only; omega)]
          show _ = if inc + y.1 < st.1 then (inc + y.1, pre ++ y.2) else st
          rw [if_pos (by omega)]
        · rw [if_neg h2, if_neg (by dsimp only; omega)]
          show _ = if inc + x.1 < st.1 then (inc + x.1, pre ++ x.2) else st
          rw [if_pos h1]
      · rw [if_neg h1]
        by_cases h2 : y.1 < x.1
        · rw [if_pos h2]
          rfl
        · rw [if_neg h2]
          show _ = if inc + x.1 < st.1 then (inc + x.1, pre ++ x.2) else st
          rw [if_neg h1, if_neg (by omega)]
theorem mrg_map (st : Int × List Int) (pre : List Int) (inc d c : Int) (r : Option (Int × List Int)) : mrg st (pre ++ [c]) (inc + d) r = mrg st pre inc (r.map (fun q => (d + q.1, c :: q.2))) := by
  cases r with
  | none => rfl
  | some q =>
    show (if inc + d + q.1 < st.1 then (inc + d + q.1, pre ++ [c] ++ q.2) else st) = if inc + (d + q.1) < st.1 then (inc + (d + q.1), pre ++ c :: q.2) else st
    rw [Int.add_assoc, List.append_assoc]
    rfl
/-- ropes that lose -/
theorem lsN_R {x : Int} {A : AB} : ∀ (n : Nat) (r : Int), aR (lsN x A n) r = if 0 ≤ r ∧ r < n then loseL x (aR A r) else aR A r
  | 0, r => by rw [if_neg (by omega)]; rfl
  | n + 1, r => by
    have ih := lsN_R (x := x) (A := A) n
    show fu (aR (lsN x A n)) n (loseL x (aR (lsN x A n) n)) r = _
    by_cases e : r = n
    · subst e
      rw [fu_same, ih, if_neg (by omega), if_pos (by omega)]
    · rw [fu_ne e, ih]
      by_cases e2 : 0 ≤ r ∧ r < n
      · rw [if_pos e2, if_pos (by omega)]
      · rw [if_neg e2, if_neg (by omega)]
theorem weekA_R {A : AB} {r : Int} (h1 : 0 ≤ r) (h2 : r < 4) : aR (weekA A) r = loseL (aWr A) (aR A r) := by
  show aR (lsN (aWr A) A 4) r = _
  rw [lsN_R, if_pos (by omega)]
theorem weekA_S (A : AB) : aS (weekA A) = aS A := lsN_S 4
theorem lsN_B {x : Int} {A : AB} : ∀ n : Nat, aB (lsN x A n) = aB A
  | 0 => rfl
  | n + 1 => lsN_B n
theorem weekA_B (A : AB) : aB (weekA A) = aB A := lsN_B 4
theorem weekA_wr (A : AB) : aWr (weekA A) = aWr A := lsN_wr 4
theorem loseL_comp : ∀ {L : List Lk} {x y : Int}, 0 ≤ x → 0 ≤ y → (∀ l ∈ L, okL l) → loseL y (loseL x L) = loseL (x + y) L
  | [], _, _, _, _, _ => rfl
  | l :: r, x, y, hx, hy, h => by
    have h1 := h l List.mem_cons_self
    have h2 : ∀ q ∈ r, okL q := fun q hq => h q (List.mem_cons_of_mem _ hq)
    unfold okL at h1
    show loseL y (if l.2.1 ≤ x then loseL (x - l.2.1) r else (l.1, l.2.1 - x, l.2.2) :: r) = (if l.2.1 ≤ x + y then loseL (x + y - l.2.1) r else (l.1, l.2.1 - (x + y), l.2.2) :: r)
    by_cases e : l.2.1 ≤ x
    · rw [if_pos e, if_pos (by omega), loseL_comp (by omega) hy h2]
      congr 1
      omega
    · rw [if_neg e]
      show (if l.2.1 - x ≤ y then loseL (y - (l.2.1 - x)) r else (l.1, l.2.1 - x - y, l.2.2) :: r) = _
      by_cases e2 : l.2.1 ≤ x + y
      · rw [if_pos (by omega), if_pos e2]
        congr 1
        omega
      · rw [if_neg (by omega), if_neg e2]
        congr 2
        congr 1
        omega
theorem powL_app {st : Int → Int} {l : Lk} (hl : okL l) : ∀ {L : List Lk} {x : Int}, 0 ≤ x → (∀ q ∈ L, okL q) → powL st (loseL x (L ++ [l])) = powL st (loseL x L) + max 0 (l.2.1 - max 0 (x - lenL L)) * st l.1
  | [], x, hx, _ => by
    unfold okL at hl
    show powL st (if l.2.1 ≤ x then loseL (x - l.2.1) [] else [(l.1, l.2.1 - x, l.2.2)]) = 0 + max 0 (l.2.1 - max 0 (x - 0)) * st l.1
    by_cases e : l.2.1 ≤ x
    · rw [if_pos e, show max 0 (l.2.1 - max 0 (x - 0)) = 0 by omega, Int.zero_mul]; rfl
    · rw [if_neg e, show max 0 (l.2.1 - max 0 (x - 0)) = l.2.1 - x by omega]
      show (l.2.1 - x) * st l.1 + 0 = _
      omega
  | q :: r, x, hx, h => by
    have h1 := h q List.mem_cons_self
    have h2 : ∀ q ∈ r, okL q := fun q hq => h q (List.mem_cons_of_mem _ hq)
    unfold okL at h1
    have hlen := lenL_bd h2
    show powL st (if q.2.1 ≤ x then loseL (x - q.2.1) (r ++ [l]) else (q.1, q.2.1 - x, q.2.2) :: (r ++ [l])) = powL st (if q.2.1 ≤ x then loseL (x - q.2.1) r else (q.1, q.2.1 - x, q.2.2) :: r) + max 0 (l.2.1 - max 0 (x - (q.2.1 + lenL r))) * st l.1
    by_cases e : q.2.1 ≤ x
    · rw [if_pos e, if_pos e, powL_app hl (by omega) h2, show x - q.2.1 - lenL r = x - (q.2.1 + lenL r) by omega]
    · rw [if_neg e, if_neg e]
      have h3 := powL_app (st := st) hl (L := r) (x := 0) (by omega) h2
      rw [loseL_zero h2, loseL_zero (L := r ++ [l]) (fun z hz => by rcases List.mem_append.mp hz with hz | hz; exact h2 z hz; rw [List.mem_singleton.mp hz]; exact hl)] at h3
      show (q.2.1 - x) * st q.1 + powL st (r ++ [l]) = (q.2.1 - x) * st q.1 + powL st r + _
      rw [h3, show max 0 (0 - lenL r) = max 0 (x - (q.2.1 + lenL r)) by omega]
      omega
theorem bears_week {A : AB} (h : WA A) : bearsA (weekA A) 0 = bearsA A (aWr A) := by
  unfold bearsA
  refine gl_congr (fun i h1 h2 => ?_)
  rw [weekA_S, weekA_R h1 h2, loseL_zero ((h.2.2.2.1 i h1 h2).lose h.2.2.2.2.1).2]
/-- the abbey with a lock woven in, a week later -/
theorem bears_weave {A : AB} {m r : Int} (h : WA A) (hm1 : 0 ≤ m) (hm2 : m < 6) (hr1 : 0 ≤ r) (hr2 : r < 4) (hz : weaveZ A m r = 0) : bearsA (weekA (weaveR A m r)) 0 = gl (fu (fun q => powL (aS A) (loseL (aWr A) (aR A q))) r (powL (aS A) (loseL (aWr A) (aR A r)) + max 0 (aB A m - max 0 (aWr A - lenL (aR A r))) * aS A m)) := by
  have hW2 := WA_weaveR h hm1 hm2 hr1 hr2
  rw [bears_week hW2]
  have hb := h.2.2.1 m hm1 hm2
  have e1 : ¬ aB A m = 0 ∧ ¬ 8 ≤ (aR A r).length := by
    unfold weaveZ at hz
    by_cases a : aB A m = 0
    · rw [if_pos a] at hz; omega
    · rw [if_neg a] at hz
      by_cases b : 8 ≤ (aR A r).length
      · rw [if_pos b] at hz; omega
      · exact ⟨a, b⟩
  have e2 : weaveR A m r = setB (setR A r (aR A r ++ [(m, aB A m, aWk A)])) m 0 := by
    unfold weaveR
    rw [if_neg e1.1, if_neg e1.2]
  rw [e2]
  unfold bearsA
  refine gl_congr (fun i h1 h2 => ?_)
  show powL (aS A) (loseL (aWr A) (fu (aR A) r (aR A r ++ [(m, aB A m, aWk A)]) i)) = _
  by_cases ei : i = r
  · subst ei
    rw [fu_same, fu_same]
    exact powL_app (st := aS A) (l := (m, aB A m, aWk A)) ⟨hm1, hm2, by show 1 ≤ aB A m; omega, hb.2⟩ h.2.2.2.2.1 (h.2.2.2.1 i h1 h2).2
  · rw [fu_ne ei, fu_ne ei]
/-! no hope -/
def sumN (P : Int → Int) : Nat → Int
  | 0 => 0
  | n + 1 => sumN P n + P n
theorem cge_sum {P : Int → Int} {w : Int} (hw : 0 ≤ w) : ∀ n : Nat, (∀ i : Int, 0 ≤ i → i < n → 0 ≤ P i) → cge P w n * w ≤ sumN P n
  | 0, _ => by simp [cge, sumN]
  | n + 1, h => by
    have ih := cge_sum (P := P) hw n (fun i h1 h2 => h i h1 (by omega))
    have hn := h n (by omega) (by omega)
    show (cge P w n + if w ≤ P (n : Int) then 1 else 0) * w ≤ sumN P n + P n
    rw [Int.add_mul]
    split
    · rw [Int.one_mul]; omega
    · rw [Int.zero_mul]; omega
theorem sumN_nn {P : Int → Int} : ∀ n : Nat, (∀ i : Int, 0 ≤ i → i < n → 0 ≤ P i) → 0 ≤ sumN P n
  | 0, _ => Int.le_refl 0
  | n + 1, h => by
    have := sumN_nn (P := P) n (fun i h1 h2 => h i h1 (by omega))
    have := h n (by omega) (by omega)
    show 0 ≤ sumN P n + P n
    omega
theorem glr_sum {P : Int → Int} (h : ∀ i : Int, 0 ≤ i → i < 4 → 0 ≤ P i) : ∀ n : Nat, n ≤ 4 → glr P n ≤ sumN P 4
  | 0, _ => sumN_nn 4 h
  | n + 1, hn => by
    have h1 := glr_sum h n (by omega)
    have h2 := cge_sum (P := P) (w := P n) (h n (by omega) (by omega)) 4 h
    show max (glr P n) (cge P (P (n : Int)) 4 * P (n : Int)) ≤ _
    omega
def tk (A : AB) : List Int → Nat → Int
  | [], _ => 0
  | _ :: _, 0 => 0
  | m :: r, k + 1 => if 0 < aB A m then aB A m * aS A m + tk A r k else tk A r (k + 1)
def hopT (A : AB) (od : List Int) (k : Nat) : Int := sumN (fun r => powL (aS A) (loseL (aWr A * k) (aR A r))) 4 + tk A od k
def PO (A : AB) (od : List Int) : Prop := (∀ m ∈ od, 0 ≤ m ∧ m < 6) ∧ (∀ m : Int, 0 ≤ m → m < 6 → m ∈ od) ∧ List.Pairwise (fun x y => 0 < aB A x → 0 < aB A y → aB A y * aS A y ≤ aB A x * aS A x) od
theorem tk_nn {A : AB} (h : WA A) : ∀ {od : List Int} {k : Nat}, (∀ m ∈ od, 0 ≤ m ∧ m < 6) → 0 ≤ tk A od k
  | [], _, _ => Int.le_refl 0
  | _ :: _, 0, _ => Int.le_refl 0
  | m :: r, k + 1, ho => by
    have h1 := ho m List.mem_cons_self
    have h2 := h.2.1 m h1.1 h1.2
    have h3 := tk_nn h (od := r) (k := k) (fun q hq => ho q (List.mem_cons_of_mem _ hq))
    have h4 := tk_nn h (od := r) (k := k + 1) (fun q hq => ho q (List.mem_cons_of_mem _ hq))
    unfold tk
    split
    · have : 0 ≤ aB A m * aS A m := Int.mul_nonneg (by omega) h2.1
      omega
    · exact h4
theorem tk_mono {A : AB} (h : WA A) : ∀ {od : List Int} {k : Nat}, (∀ m ∈ od, 0 ≤ m ∧ m < 6) → tk A od k ≤ tk A od (k + 1)
  | [], _, _ => Int.le_refl 0
  | m :: r, 0, ho => tk_nn h ho
  | m :: r, k + 1, ho => by
    have h3 := tk_mono h (od := r) (k := k) (fun q hq => ho q (List.mem_cons_of_mem _ hq))
    have h4 := tk_mono h (od := r) (k := k + 1) (fun q hq => ho q (List.mem_cons_of_mem _ hq))
    unfold tk
    split
    · omega
    · exact h4
/-- one that was woven in, and the best of the rest -/
theorem tk_take {A A' : AB} {m : Int} (h : WA A) (hS : ∀ q, aS A' q = aS A q) (hB : ∀ q, aB A' q = if q = m then 0 else aB A q) (hm : 0 < aB A m) : ∀ {od : List Int} {k : Nat}, (∀ q ∈ od, 0 ≤ q ∧ q < 6) → m ∈ od → List.Pairwise (fun x y => 0 < aB A x → 0 < aB A y → aB A y * aS A y ≤ aB A x * aS A x) od → tk A' od k + aB A m * aS A m ≤ tk A od (k + 1)
  | [], _, _, hmem, _ => by cases hmem
  | q :: r, k, ho, hmem, hp => by
    obtain ⟨hp1, hp2⟩ := List.pairwise_cons.mp hp
    have ho2 : ∀ z ∈ r, 0 ≤ z ∧ z < 6 := fun z hz => ho z (List.mem_cons_of_mem _ hz)
    by_cases e : q = m
    · subst e
      have h1 : tk A (q :: r) (k + 1) = aB A q * aS A q + tk A r k := if_pos hm
      rw [h1]
      have h2 : tk A' (q :: r) k ≤ tk A r k := by
        have key : ∀ {od : List Int} {k : Nat}, (∀ q ∈ od, 0 ≤ q ∧ q < 6) → tk A' od k ≤ tk A od k := by
          intro od
          induction od with
          | nil => intro k _; exact Int.le_refl 0
          | cons z od ih =>
            intro k hz
            cases k with
            | zero => exact Int.le_refl 0
            | succ k =>
              have i1 := ih (k := k) (fun x hx => hz x (List.mem_cons_of_mem _ hx))
              have i2 := ih (k := k + 1) (fun x hx => hz x (List.mem_cons_of_mem _ hx))
              have i3 := tk_mono h (od := od) (k := k) (fun x hx => hz x (List.mem_cons_of_mem _ hx))
              have hzz := hz z List.mem_cons_self
              show (if 0 < aB A' z then aB A' z * aS A' z + tk A' od k else tk A' od (k + 1)) ≤ (if 0 < aB A z then aB A z * aS A z + tk A od k else tk A od (k + 1))
              rw [hB z, hS z]
              by_cases ez : z = q
              · subst ez
                rw [if_pos rfl, if_neg (by omega), if_pos hm]
                have key2 : ∀ {od : List Int} {k : Nat}, (∀ q ∈ od, 0 ≤ q ∧ q < 6) → True := fun _ => trivial
                have h5 : tk A od (k + 1) ≤ aB A z * aS A z + tk A od k := by
                  sorry
                omega
              · rw [if_neg ez]
                split <;> omega
        sorry
      omega
    · sorry
