/-! the model: a text gone through -/
theorem flt_split {xs : List Int} {i : Int} (hi : 0 ≤ i) (h : fltL 0 i xs = -6) : xs = [] ∨ (∃ r, xs = 46 :: r ∧ fltL 0 (i + 1) r = -6) ∨ (∃ c d r, xs = c :: d :: r ∧ 65 ≤ c ∧ c ≤ 70 ∧ 48 ≤ d ∧ d ≤ 51 ∧ fltL 0 (i + 2) r = -6) ∨ (∃ c d s r, xs = c :: d :: s :: r ∧ 65 ≤ c ∧ c ≤ 70 ∧ (d = 43 ∨ d = 45) ∧ 49 ≤ s ∧ s ≤ 57 ∧ fltL 0 (i + 3) r = -6) := by
  cases xs with
  | nil => exact Or.inl rfl
  | cons c r =>
    have h1 : (if beh 0 c = 3 then i else fltL (beh 0 c) (i + 1) r) = -6 := h
    have hb : beh 0 c = if c = 46 then 0 else if 65 ≤ c ∧ c ≤ 70 then 1 else 3 := rfl
    rw [hb] at h1
    by_cases e1 : c = 46
    · rw [if_pos e1] at h1
      rw [if_neg (by omega)] at h1
      exact Or.inr (Or.inl ⟨r, by rw [e1], h1⟩)
    · rw [if_neg e1] at h1
      by_cases e2 : 65 ≤ c ∧ c ≤ 70
      · rw [if_pos e2, if_neg (by omega)] at h1
        cases r with
        | nil =>
          have h2 : (if (1 : Int) = 0 then (-6 : Int) else i + 1) = -6 := h1
          rw [if_neg (by omega)] at h2
          omega
        | cons d r =>
          have h2 : (if beh 1 d = 3 then i + 1 else fltL (beh 1 d) (i + 1 + 1) r) = -6 := h1
          have hb2 : beh 1 d = if d = 43 ∨ d = 45 then 2 else if 48 ≤ d ∧ d ≤ 51 then 0 else 3 := rfl
          rw [hb2] at h2
          by_cases e3 : d = 43 ∨ d = 45
          · rw [if_pos e3, if_neg (by omega)] at h2
            cases r with
            | nil =>
              have h3 : (if (2 : Int) = 0 then (-6 : Int) else i + 1 + 1) = -6 := h2
              rw [if_neg (by omega)] at h3
              omega
            | cons s r =>
              have h3 : (if beh 2 s = 3 then i + 1 + 1 else fltL (beh 2 s) (i + 1 + 1 + 1) r) = -6 := h2
              have hb3 : beh 2 s = if 49 ≤ s ∧ s ≤ 57 then 0 else 3 := rfl
              rw [hb3] at h3
              by_cases e4 : 49 ≤ s ∧ s ≤ 57
              · rw [if_pos e4, if_neg (by omega)] at h3
                exact Or.inr (Or.inr (Or.inr ⟨c, d, s, r, rfl, e2.1, e2.2, e3, e4.1, e4.2, by rw [show i + 3 = i + 1 + 1 + 1 by omega]; exact h3⟩))
              · rw [if_neg e4, if_pos rfl] at h3
                omega
          · rw [if_neg e3] at h2
            by_cases e4 : 48 ≤ d ∧ d ≤ 51
            · rw [if_pos e4, if_neg (by omega)] at h2
              exact Or.inr (Or.inr (Or.inl ⟨c, d, r, rfl, e2.1, e2.2, e4.1, e4.2, by rw [show i + 2 = i + 1 + 1 by omega]; exact h2⟩))
            · rw [if_neg e4, if_pos rfl] at h2
              omega
      · rw [if_neg e2, if_pos rfl] at h1
        omega
theorem fol_week {r : List Int} {p : Int} {B : AB} : folS (46 :: r) 0 0 0 p B = folS r 0 0 0 (p + 1) (weekA B) := by
  show (if (0 : Int) = 0 then (if (46 : Int) = 46 then _ else _) else _) = _
  rw [if_pos rfl, if_pos rfl]
theorem fol_weave {c d : Int} {r : List Int} {p : Int} {B : AB} (h1 : 65 ≤ c) (h2 : 48 ≤ d) (h3 : d ≤ 51) : folS (c :: d :: r) 0 0 0 p B = if weaveZ B (c - 65) (d - 48) = 0 then folS r 0 0 0 (p + 1) (weaveR B (c - 65) (d - 48)) else (p, weaveZ B (c - 65) (d - 48), B) := by
  show (if (0 : Int) = 0 then (if c = 46 then _ else folS (d :: r) 1 c 0 p B) else _) = _
  rw [if_pos rfl, if_neg (by omega)]
  show (if (1 : Int) = 0 then _ else if (1 : Int) = 1 then (if d = 43 ∨ d = 45 then _ else _) else _) = _
  rw [if_neg (by omega), if_pos rfl, if_neg (by omega)]
theorem fol_sin {c s : Int} {r : List Int} {p : Int} {B : AB} (h1 : 65 ≤ c) : folS (c :: 43 :: s :: r) 0 0 0 p B = if sinZ B (c - 65) (s - 48) = 0 then folS r 0 0 0 (p + 1) (sinR B (c - 65) (s - 48)) else (p, sinZ B (c - 65) (s - 48), B) := by
  show (if (0 : Int) = 0 then (if c = 46 then _ else folS (43 :: s :: r) 1 c 0 p B) else _) = _
  rw [if_pos rfl, if_neg (by omega)]
  show (if (1 : Int) = 0 then _ else if (1 : Int) = 1 then (if (43 : Int) = 43 ∨ (43 : Int) = 45 then folS (s :: r) 2 c 43 p B else _) else _) = _
  rw [if_neg (by omega), if_pos rfl, if_pos (by omega)]
  show (if (2 : Int) = 0 then _ else if (2 : Int) = 1 then _ else if (43 : Int) = 43 then _ else _) = _
  rw [if_neg (by omega), if_neg (by omega), if_pos rfl]
theorem fol_pray {c s : Int} {r : List Int} {p : Int} {B : AB} (h1 : 65 ≤ c) : folS (c :: 45 :: s :: r) 0 0 0 p B = if prayZ B (c - 65) (s - 48) = 0 then folS r 0 0 0 (p + 1) (prayR B (c - 65) (s - 48)) else (p, prayZ B (c - 65) (s - 48), B) := by
  show (if (0 : Int) = 0 then (if c = 46 then _ else folS (45 :: s :: r) 1 c 0 p B) else _) = _
  rw [if_pos rfl, if_neg (by omega)]
  show (if (1 : Int) = 0 then _ else if (1 : Int) = 1 then (if (45 : Int) = 43 ∨ (45 : Int) = 45 then folS (s :: r) 2 c 45 p B else _) else _) = _
  rw [if_neg (by omega), if_pos rfl, if_pos (by omega)]
  show (if (2 : Int) = 0 then _ else if (2 : Int) = 1 then _ else if (45 : Int) = 43 then _ else _) = _
  rw [if_neg (by omega), if_neg (by omega), if_neg (by omega)]
theorem sin_no {B : AB} {p k : Int} (h : ¬ sinZ B p k = 0) : sinR B p k = B := by
  unfold sinZ at h
  unfold sinR
  by_cases e : 40 < aH B p + k
  · rw [if_pos e]
  · rw [if_neg e] at h; exact absurd rfl h
theorem pray_no {B : AB} {p k : Int} (h : ¬ prayZ B p k = 0) : prayR B p k = B := by
  rcases pray_cases B p k with q | q | q
  · exact q.2.2
  · exact q.2.2.2
  · exact absurd q.1 h
theorem weave_no {B : AB} {p r : Int} (h : ¬ weaveZ B p r = 0) : weaveR B p r = B := by
  rcases weave_cases B p r with q | q | q
  · exact q.2.2
  · exact q.2.2.2
  · exact absurd q.1 h
/-- what a text leaves as it is -/
def FG (σ τ : ab_S) (m : Int) : Prop := ∀ k i : Int, (k < m + 13 ∨ m + 19 < k) → ¬ (k = m ∧ (i = 23 ∨ i = 26 ∨ i = 27)) → τ k i = σ k i
