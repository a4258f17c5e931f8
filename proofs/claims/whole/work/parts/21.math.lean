/-! ropes as lists of locks (monk, inches, week), the oldest first -/
abbrev Lk : Type := Int × Int × Int
def loseL : Int → List Lk → List Lk
  | _, [] => []
  | x, l :: r => if l.2.1 ≤ x then loseL (x - l.2.1) r else (l.1, l.2.1 - x, l.2.2) :: r
def lostL : Int → List Lk → Int → Int
  | _, [], _ => 0
  | x, l :: r, m => if l.2.1 ≤ x then (if l.1 = m then l.2.1 else 0) + lostL (x - l.2.1) r m else (if l.1 = m then x else 0)
def powL (st : Int → Int) : List Lk → Int
  | [] => 0
  | l :: r => l.2.1 * st l.1 + powL st r
def lenL : List Lk → Int
  | [] => 0
  | l :: r => l.2.1 + lenL r
def lenM (m : Int) : List Lk → Int
  | [] => 0
  | l :: r => (if l.1 = m then l.2.1 else 0) + lenM m r
def okL (l : Lk) : Prop := 0 ≤ l.1 ∧ l.1 < 6 ∧ 1 ≤ l.2.1 ∧ l.2.1 ≤ 99
def WL (L : List Lk) : Prop := L.length ≤ 8 ∧ ∀ l ∈ L, okL l
def RR (σ : ab_S) (p : Int) (L : List Lk) : Prop := σ p 3 = L.length ∧ ∀ (i : Nat) (l : Lk), L[i]? = some l → σ (p + 1) i = l.1 ∧ σ (p + 2) i = l.2.1 ∧ σ (p + 3) i = l.2.2
theorem loseL_zero : ∀ {L : List Lk}, (∀ l ∈ L, okL l) → loseL 0 L = L
  | [], _ => rfl
  | l :: r, h => by
    have h1 := h l List.mem_cons_self
    unfold okL at h1
    unfold loseL
    rw [if_neg (by omega), Int.sub_zero]
theorem powL_step {st : Int → Int} {l : Lk} {r : List Lk} {x : Int} (hx : 0 ≤ x) (hl : okL l) (hr : ∀ q ∈ r, okL q) : (l.2.1 - min x l.2.1) * st l.1 + powL st (loseL (x - min x l.2.1) r) = powL st (loseL x (l :: r)) := by
  unfold okL at hl
  show _ = powL st (if l.2.1 ≤ x then loseL (x - l.2.1) r else (l.1, l.2.1 - x, l.2.2) :: r)
  by_cases h : l.2.1 ≤ x
  · rw [if_pos h, show min x l.2.1 = l.2.1 by omega, Int.sub_self, Int.zero_mul, Int.zero_add]
  · rw [if_neg h, show min x l.2.1 = x by omega, Int.sub_self, loseL_zero hr]
    rfl
theorem drop_cons {L : List Lk} {i : Nat} {l : Lk} (h : L[i]? = some l) : L.drop i = l :: L.drop (i + 1) := by
  obtain ⟨hi, he⟩ := List.getElem?_eq_some_iff.mp h
  rw [List.drop_eq_getElem_cons hi, he]
theorem get_some {L : List Lk} {i : Nat} (h : i < L.length) : ∃ l, L[i]? = some l ∧ l ∈ L := ⟨L[i], List.getElem?_eq_getElem h, List.getElem_mem h⟩
theorem drop_end {L : List Lk} {i : Nat} (h : L.length ≤ i) : L.drop i = [] := List.drop_eq_nil_of_le h
theorem drop_ok {L : List Lk} {i : Nat} (h : ∀ l ∈ L, okL l) : ∀ l ∈ L.drop i, okL l := fun l hl => h l (List.mem_of_mem_drop hl)
theorem loseL_len : ∀ {L : List Lk} {x : Int}, (loseL x L).length ≤ L.length
  | [], _ => Nat.le_refl _
  | l :: r, x => by
    unfold loseL
    split
    · exact Nat.le_succ_of_le loseL_len
    · exact Nat.le_refl _
theorem loseL_ok : ∀ {L : List Lk} {x : Int}, 0 ≤ x → (∀ l ∈ L, okL l) → ∀ l ∈ loseL x L, okL l
  | [], _, _, _ => fun l h => by cases h
  | q :: r, x, hx, h => by
    have h1 := h q List.mem_cons_self
    have h2 : ∀ l ∈ r, okL l := fun l hl => h l (List.mem_cons_of_mem _ hl)
    unfold loseL
    split
    · exact loseL_ok (by omega) h2
    · intro l hl
      rcases List.mem_cons.mp hl with rfl | hl
      · unfold okL at h1 ⊢
        dsimp only
        omega
      · exact h2 l hl
theorem WL.lose {L : List Lk} {x : Int} (h : WL L) (hx : 0 ≤ x) : WL (loseL x L) := ⟨Nat.le_trans loseL_len h.1, loseL_ok hx h.2⟩
theorem powL_bd {st : Int → Int} (hs : ∀ m : Int, 0 ≤ m → m < 6 → 0 ≤ st m ∧ st m ≤ 9) : ∀ {L : List Lk}, (∀ l ∈ L, okL l) → 0 ≤ powL st L ∧ powL st L ≤ 891 * L.length
  | [], _ => by simp [powL]
  | l :: r, h => by
    have h1 := h l List.mem_cons_self
    unfold okL at h1
    have h2 := hs l.1 h1.1 h1.2.1
    have h3 := powL_bd hs (L := r) (fun q hq => h q (List.mem_cons_of_mem _ hq))
    have h4 : 0 ≤ l.2.1 * st l.1 ∧ l.2.1 * st l.1 ≤ 99 * 9 := mul_bd (by omega) (by omega) h2.1 h2.2
    show 0 ≤ l.2.1 * st l.1 + powL st r ∧ l.2.1 * st l.1 + powL st r ≤ 891 * ((r.length + 1 : Nat) : Int)
    omega
theorem lenL_bd : ∀ {L : List Lk}, (∀ l ∈ L, okL l) → 0 ≤ lenL L ∧ lenL L ≤ 99 * L.length
  | [], _ => by simp [lenL]
  | l :: r, h => by
    have h1 := h l List.mem_cons_self
    unfold okL at h1
    have h3 := lenL_bd (L := r) (fun q hq => h q (List.mem_cons_of_mem _ hq))
    show 0 ≤ l.2.1 + lenL r ∧ l.2.1 + lenL r ≤ 99 * ((r.length + 1 : Nat) : Int)
    omega
theorem lenM_bd {m : Int} : ∀ {L : List Lk}, (∀ l ∈ L, okL l) → 0 ≤ lenM m L ∧ lenM m L ≤ 99 * L.length
  | [], _ => by simp [lenM]
  | l :: r, h => by
    have h1 := h l List.mem_cons_self
    unfold okL at h1
    have h3 := lenM_bd (m := m) (L := r) (fun q hq => h q (List.mem_cons_of_mem _ hq))
    show 0 ≤ (if l.1 = m then l.2.1 else 0) + lenM m r ∧ (if l.1 = m then l.2.1 else 0) + lenM m r ≤ 99 * ((r.length + 1 : Nat) : Int)
    split <;> omega
