/-! the abbey: hair, strong, basket, worn, ropes, wear, weeks -/
abbrev AB : Type := (Int → Int) × (Int → Int) × (Int → Int) × (Int → Int) × (Int → List Lk) × Int × Int
def aH (A : AB) : Int → Int := A.1
def aS (A : AB) : Int → Int := A.2.1
def aB (A : AB) : Int → Int := A.2.2.1
def aW (A : AB) : Int → Int := A.2.2.2.1
def aR (A : AB) : Int → List Lk := A.2.2.2.2.1
def aWr (A : AB) : Int := A.2.2.2.2.2.1
def aWk (A : AB) : Int := A.2.2.2.2.2.2
def fu {α : Type} (f : Int → α) (i : Int) (v : α) : Int → α := fun j => if j = i then v else f j
theorem fu_same {α : Type} (f : Int → α) (i : Int) (v : α) : fu f i v i = v := if_pos rfl
theorem fu_ne {α : Type} {f : Int → α} {i j : Int} {v : α} (h : j ≠ i) : fu f i v j = f j := if_neg h
def setH (A : AB) (m v : Int) : AB := (fu (aH A) m v, A.2)
def setS (A : AB) (m v : Int) : AB := (A.1, fu (aS A) m v, A.2.2)
def setB (A : AB) (m v : Int) : AB := (A.1, A.2.1, fu (aB A) m v, A.2.2.2)
def setW (A : AB) (f : Int → Int) : AB := (A.1, A.2.1, A.2.2.1, f, A.2.2.2.2)
def setR (A : AB) (r : Int) (L : List Lk) : AB := (A.1, A.2.1, A.2.2.1, A.2.2.2.1, fu (aR A) r L, A.2.2.2.2.2)
def setWr (A : AB) (v : Int) : AB := (A.1, A.2.1, A.2.2.1, A.2.2.2.1, A.2.2.2.2.1, v, A.2.2.2.2.2.2)
def setWk (A : AB) (v : Int) : AB := (A.1, A.2.1, A.2.2.1, A.2.2.2.1, A.2.2.2.2.1, A.2.2.2.2.2.1, v)
def RA (σ : ab_S) (a : Int) (A : AB) : Prop := (∀ m : Int, 0 ≤ m → m < 6 → σ (a + 1) m = aH A m) ∧ (∀ m : Int, 0 ≤ m → m < 6 → σ (a + 2) m = aS A m) ∧ (∀ m : Int, 0 ≤ m → m < 6 → σ (a + 3) m = aB A m) ∧ (∀ m : Int, 0 ≤ m → m < 6 → σ (a + 4) m = aW A m) ∧ (∀ r : Int, 0 ≤ r → r < 4 → RR σ (a + 5 + (2 + 4 * r)) (aR A r)) ∧ σ a 6 = aWr A ∧ σ a 7 = aWk A
def WA (A : AB) : Prop := (∀ m : Int, 0 ≤ m → m < 6 → 0 ≤ aH A m ∧ aH A m ≤ 40) ∧ (∀ m : Int, 0 ≤ m → m < 6 → 0 ≤ aS A m ∧ aS A m ≤ 9) ∧ (∀ m : Int, 0 ≤ m → m < 6 → 0 ≤ aB A m ∧ aB A m ≤ 99) ∧ (∀ r : Int, 0 ≤ r → r < 4 → WL (aR A r)) ∧ 0 ≤ aWr A ∧ aWr A ≤ 9
/-- nothing changed outside the abbey's cells -/
def FA (σ τ : ab_S) (a : Int) : Prop := ∀ k i : Int, k < a ∨ a + 22 < k → τ k i = σ k i
theorem FA.rf {σ : ab_S} {a : Int} : FA σ σ a := fun _ _ _ => rfl
theorem FA.tr {σ τ υ : ab_S} {a : Int} (h1 : FA σ τ a) (h2 : FA τ υ a) : FA σ υ a := fun k i hk => (h2 k i hk).trans (h1 k i hk)
theorem RA.kept {σ τ : ab_S} {a : Int} {A : AB} (h : RA σ a A) (hf : ∀ k i : Int, a ≤ k → k ≤ a + 22 → k ≠ a + 6 → τ k i = σ k i) : RA τ a A := by
  obtain ⟨h1, h2, h3, h4, h5, h6, h7⟩ := h
  refine ⟨fun m a1 a2 => ?_, fun m a1 a2 => ?_, fun m a1 a2 => ?_, fun m a1 a2 => ?_, fun r a1 a2 => ?_, ?_, ?_⟩
  · rw [hf _ _ (by omega) (by omega) (by omega)]; exact h1 m a1 a2
  · rw [hf _ _ (by omega) (by omega) (by omega)]; exact h2 m a1 a2
  · rw [hf _ _ (by omega) (by omega) (by omega)]; exact h3 m a1 a2
  · rw [hf _ _ (by omega) (by omega) (by omega)]; exact h4 m a1 a2
  · exact (h5 r a1 a2).kept (fun k i b1 b2 => hf k i (by omega) (by omega) (by omega))
  · rw [hf _ _ (by omega) (by omega) (by omega)]; exact h6
  · rw [hf _ _ (by omega) (by omega) (by omega)]; exact h7
theorem RA_setH {σ τ : ab_S} {a m v : Int} {A : AB} (h : RA σ a A) (hv : τ (a + 1) m = v) (hf : ∀ k i : Int, a ≤ k → k ≤ a + 22 → ¬ (k = a + 1 ∧ i = m) → τ k i = σ k i) : RA τ a (setH A m v) := by
  obtain ⟨h1, h2, h3, h4, h5, h6, h7⟩ := h
  refine ⟨fun q a1 a2 => ?_, fun q a1 a2 => ?_, fun q a1 a2 => ?_, fun q a1 a2 => ?_, fun r a1 a2 => ?_, ?_, ?_⟩
  · show _ = fu (aH A) m v q
    by_cases e : q = m
    · subst e; rw [fu_same, hv]
    · rw [fu_ne e, hf _ _ (by omega) (by omega) (by omega)]; exact h1 q a1 a2
  · rw [hf _ _ (by omega) (by omega) (by omega)]; exact h2 q a1 a2
  · rw [hf _ _ (by omega) (by omega) (by omega)]; exact h3 q a1 a2
  · rw [hf _ _ (by omega) (by omega) (by omega)]; exact h4 q a1 a2
  · exact (h5 r a1 a2).kept (fun k i b1 b2 => hf k i (by omega) (by omega) (by omega))
  · rw [hf _ _ (by omega) (by omega) (by omega)]; exact h6
  · rw [hf _ _ (by omega) (by omega) (by omega)]; exact h7
theorem RA_setS {σ τ : ab_S} {a m v : Int} {A : AB} (h : RA σ a A) (hv : τ (a + 2) m = v) (hf : ∀ k i : Int, a ≤ k → k ≤ a + 22 → ¬ (k = a + 2 ∧ i = m) → τ k i = σ k i) : RA τ a (setS A m v) := by
  obtain ⟨h1, h2, h3, h4, h5, h6, h7⟩ := h
  refine ⟨fun q a1 a2 => ?_, fun q a1 a2 => ?_, fun q a1 a2 => ?_, fun q a1 a2 => ?_, fun r a1 a2 => ?_, ?_, ?_⟩
  · rw [hf _ _ (by omega) (by omega) (by omega)]; exact h1 q a1 a2
  · show _ = fu (aS A) m v q
    by_cases e : q = m
    · subst e; rw [fu_same, hv]
    · rw [fu_ne e, hf _ _ (by omega) (by omega) (by omega)]; exact h2 q a1 a2
  · rw [hf _ _ (by omega) (by omega) (by omega)]; exact h3 q a1 a2
  · rw [hf _ _ (by omega) (by omega) (by omega)]; exact h4 q a1 a2
  · exact (h5 r a1 a2).kept (fun k i b1 b2 => hf k i (by omega) (by omega) (by omega))
  · rw [hf _ _ (by omega) (by omega) (by omega)]; exact h6
  · rw [hf _ _ (by omega) (by omega) (by omega)]; exact h7
theorem RA_setB {σ τ : ab_S} {a m v : Int} {A : AB} (h : RA σ a A) (hv : τ (a + 3) m = v) (hf : ∀ k i : Int, a ≤ k → k ≤ a + 22 → ¬ (k = a + 3 ∧ i = m) → τ k i = σ k i) : RA τ a (setB A m v) := by
  obtain ⟨h1, h2, h3, h4, h5, h6, h7⟩ := h
  refine ⟨fun q a1 a2 => ?_, fun q a1 a2 => ?_, fun q a1 a2 => ?_, fun q a1 a2 => ?_, fun r a1 a2 => ?_, ?_, ?_⟩
  · rw [hf _ _ (by omega) (by omega) (by omega)]; exact h1 q a1 a2
  · rw [hf _ _ (by omega) (by omega) (by omega)]; exact h2 q a1 a2
  · show _ = fu (aB A) m v q
    by_cases e : q = m
    · subst e; rw [fu_same, hv]
    · rw [fu_ne e, hf _ _ (by omega) (by omega) (by omega)]; exact h3 q a1 a2
  · rw [hf _ _ (by omega) (by omega) (by omega)]; exact h4 q a1 a2
  · exact (h5 r a1 a2).kept (fun k i b1 b2 => hf k i (by omega) (by omega) (by omega))
  · rw [hf _ _ (by omega) (by omega) (by omega)]; exact h6
  · rw [hf _ _ (by omega) (by omega) (by omega)]; exact h7
theorem RA_setR {σ τ : ab_S} {a r : Int} {A : AB} {L : List Lk} (h : RA σ a A) (h0 : 0 ≤ r) (h9 : r < 4) (hr : RR τ (a + 5 + (2 + 4 * r)) L) (hf : ∀ k i : Int, a ≤ k → k ≤ a + 22 → k < a + 5 + (2 + 4 * r) ∨ a + 5 + (2 + 4 * r) + 3 < k → τ k i = σ k i) : RA τ a (setR A r L) := by
  obtain ⟨h1, h2, h3, h4, h5, h6, h7⟩ := h
  refine ⟨fun q a1 a2 => ?_, fun q a1 a2 => ?_, fun q a1 a2 => ?_, fun q a1 a2 => ?_, fun q a1 a2 => ?_, ?_, ?_⟩
  · rw [hf _ _ (by omega) (by omega) (by omega)]; exact h1 q a1 a2
  · rw [hf _ _ (by omega) (by omega) (by omega)]; exact h2 q a1 a2
  · rw [hf _ _ (by omega) (by omega) (by omega)]; exact h3 q a1 a2
  · rw [hf _ _ (by omega) (by omega) (by omega)]; exact h4 q a1 a2
  · show RR τ _ (fu (aR A) r L q)
    by_cases e : q = r
    · subst e; rw [fu_same]; exact hr
    · rw [fu_ne e]; exact (h5 q a1 a2).kept (fun k i b1 b2 => hf k i (by omega) (by omega) (by omega))
  · rw [hf _ _ (by omega) (by omega) (by omega)]; exact h6
  · rw [hf _ _ (by omega) (by omega) (by omega)]; exact h7
theorem RA_setW {σ τ : ab_S} {a : Int} {A : AB} {f : Int → Int} (h : RA σ a A) (hv : ∀ m : Int, 0 ≤ m → m < 6 → τ (a + 4) m = f m) (hf : ∀ k i : Int, a ≤ k → k ≤ a + 22 → k ≠ a + 4 → τ k i = σ k i) : RA τ a (setW A f) := by
  obtain ⟨h1, h2, h3, h4, h5, h6, h7⟩ := h
  refine ⟨fun q a1 a2 => ?_, fun q a1 a2 => ?_, fun q a1 a2 => ?_, hv, fun r a1 a2 => ?_, ?_, ?_⟩
  · rw [hf _ _ (by omega) (by omega) (by omega)]; exact h1 q a1 a2
  · rw [hf _ _ (by omega) (by omega) (by omega)]; exact h2 q a1 a2
  · rw [hf _ _ (by omega) (by omega) (by omega)]; exact h3 q a1 a2
  · exact (h5 r a1 a2).kept (fun k i b1 b2 => hf k i (by omega) (by omega) (by omega))
  · rw [hf _ _ (by omega) (by omega) (by omega)]; exact h6
  · rw [hf _ _ (by omega) (by omega) (by omega)]; exact h7
theorem RA_setWk {σ τ : ab_S} {a v : Int} {A : AB} (h : RA σ a A) (hv : τ a 7 = v) (hf : ∀ k i : Int, a ≤ k → k ≤ a + 22 → ¬ (k = a ∧ i = 7) → τ k i = σ k i) : RA τ a (setWk A v) := by
  obtain ⟨h1, h2, h3, h4, h5, h6, h7⟩ := h
  refine ⟨fun q a1 a2 => ?_, fun q a1 a2 => ?_, fun q a1 a2 => ?_, fun q a1 a2 => ?_, fun r a1 a2 => ?_, ?_, hv⟩
  · rw [hf _ _ (by omega) (by omega) (by omega)]; exact h1 q a1 a2
  · rw [hf _ _ (by omega) (by omega) (by omega)]; exact h2 q a1 a2
  · rw [hf _ _ (by omega) (by omega) (by omega)]; exact h3 q a1 a2
  · rw [hf _ _ (by omega) (by omega) (by omega)]; exact h4 q a1 a2
  · exact (h5 r a1 a2).kept (fun k i b1 b2 => hf k i (by omega) (by omega) (by omega))
  · rw [hf _ _ (by omega) (by omega) (by omega)]; exact h6
theorem RA_setWr {σ τ : ab_S} {a v : Int} {A : AB} (h : RA σ a A) (hv : τ a 6 = v) (hf : ∀ k i : Int, a ≤ k → k ≤ a + 22 → ¬ (k = a ∧ i = 6) → τ k i = σ k i) : RA τ a (setWr A v) := by
  obtain ⟨h1, h2, h3, h4, h5, h6, h7⟩ := h
  refine ⟨fun q a1 a2 => ?_, fun q a1 a2 => ?_, fun q a1 a2 => ?_, fun q a1 a2 => ?_, fun r a1 a2 => ?_, hv, ?_⟩
  · rw [hf _ _ (by omega) (by omega) (by omega)]; exact h1 q a1 a2
  · rw [hf _ _ (by omega) (by omega) (by omega)]; exact h2 q a1 a2
  · rw [hf _ _ (by omega) (by omega) (by omega)]; exact h3 q a1 a2
  · rw [hf _ _ (by omega) (by omega) (by omega)]; exact h4 q a1 a2
  · exact (h5 r a1 a2).kept (fun k i b1 b2 => hf k i (by omega) (by omega) (by omega))
  · rw [hf _ _ (by omega) (by omega) (by omega)]; exact h7
/-- deeds -/
def sinZ (A : AB) (m k : Int) : Int := if 40 < aH A m + k then 1 else 0
def sinR (A : AB) (m k : Int) : AB := if 40 < aH A m + k then A else setH A m (aH A m + k)
def prayZ (A : AB) (m k : Int) : Int := if aH A m < k then 2 else if 99 < aB A m + k then 5 else 0
def prayR (A : AB) (m k : Int) : AB := if aH A m < k then A else if 99 < aB A m + k then A else setB (setH A m (aH A m - k)) m (aB A m + k)
def weaveZ (A : AB) (m r : Int) : Int := if aB A m = 0 then 3 else if 8 ≤ (aR A r).length then 4 else 0
def weaveR (A : AB) (m r : Int) : AB := if aB A m = 0 then A else if 8 ≤ (aR A r).length then A else setB (setR A r (aR A r ++ [(m, aB A m, aWk A)])) m 0
def wkStep (x : Int) (B : AB) (n : Nat) : AB := setW (setR B n (loseL x (aR B n))) (fun m => aW B m + lostL x (aR B n) m)
def lsN (x : Int) (A : AB) : Nat → AB
  | 0 => A
  | n + 1 => wkStep x (lsN x A n) n
def lsA (x : Int) (A : AB) : AB := lsN x A 4
def weekA (A : AB) : AB := setWk (lsA (aWr A) A) (aWk A + 1)
theorem WA_setH {A : AB} {m v : Int} (h : WA A) (h1 : 0 ≤ v) (h2 : v ≤ 40) : WA (setH A m v) := by
  refine ⟨fun q a1 a2 => ?_, h.2⟩
  show 0 ≤ fu (aH A) m v q ∧ fu (aH A) m v q ≤ 40
  by_cases e : q = m
  · subst e; rw [fu_same]; omega
  · rw [fu_ne e]; exact h.1 q a1 a2
theorem WA_setS {A : AB} {m v : Int} (h : WA A) (h1 : 0 ≤ v) (h2 : v ≤ 9) : WA (setS A m v) := by
  refine ⟨h.1, fun q a1 a2 => ?_, h.2.2⟩
  show 0 ≤ fu (aS A) m v q ∧ fu (aS A) m v q ≤ 9
  by_cases e : q = m
  · subst e; rw [fu_same]; omega
  · rw [fu_ne e]; exact h.2.1 q a1 a2
theorem WA_setB {A : AB} {m v : Int} (h : WA A) (h1 : 0 ≤ v) (h2 : v ≤ 99) : WA (setB A m v) := by
  refine ⟨h.1, h.2.1, fun q a1 a2 => ?_, h.2.2.2⟩
  show 0 ≤ fu (aB A) m v q ∧ fu (aB A) m v q ≤ 99
  by_cases e : q = m
  · subst e; rw [fu_same]; omega
  · rw [fu_ne e]; exact h.2.2.1 q a1 a2
theorem WA_setR {A : AB} {r : Int} {L : List Lk} (h : WA A) (hL : WL L) : WA (setR A r L) := by
  refine ⟨h.1, h.2.1, h.2.2.1, fun q a1 a2 => ?_, h.2.2.2.2⟩
  show WL (fu (aR A) r L q)
  by_cases e : q = r
  · subst e; rw [fu_same]; exact hL
  · rw [fu_ne e]; exact h.2.2.2.1 q a1 a2
theorem WA_setW {A : AB} {f : Int → Int} (h : WA A) : WA (setW A f) := h
theorem WA_setWk {A : AB} {v : Int} (h : WA A) : WA (setWk A v) := h
theorem WA_setWr {A : AB} {v : Int} (h : WA A) (h1 : 0 ≤ v) (h2 : v ≤ 9) : WA (setWr A v) := ⟨h.1, h.2.1, h.2.2.1, h.2.2.2.1, h1, h2⟩
theorem WA_sinR {A : AB} {m k : Int} (h : WA A) (hm : 0 ≤ m) (hm2 : m < 6) (hk : 0 ≤ k) : WA (sinR A m k) := by
  have := h.1 m hm hm2
  show WA (if 40 < aH A m + k then A else setH A m (aH A m + k))
  split
  · exact h
  · exact WA_setH h (by omega) (by omega)
theorem WA_prayR {A : AB} {m k : Int} (h : WA A) (hm : 0 ≤ m) (hm2 : m < 6) (hk : 0 ≤ k) : WA (prayR A m k) := by
  have := h.1 m hm hm2
  have := h.2.2.1 m hm hm2
  show WA (if aH A m < k then A else if 99 < aB A m + k then A else setB (setH A m (aH A m - k)) m (aB A m + k))
  split
  · exact h
  · split
    · exact h
    · exact WA_setB (WA_setH h (by omega) (by omega)) (by omega) (by omega)
theorem WA_weaveR {A : AB} {m r : Int} (h : WA A) (hm : 0 ≤ m) (hm2 : m < 6) (hr : 0 ≤ r) (hr2 : r < 4) : WA (weaveR A m r) := by
  have h1 := h.2.2.1 m hm hm2
  have h2 := h.2.2.2.1 r hr hr2
  show WA (if aB A m = 0 then A else if 8 ≤ (aR A r).length then A else setB (setR A r (aR A r ++ [(m, aB A m, aWk A)])) m 0)
  split
  · exact h
  · split
    · exact h
    · refine WA_setB (WA_setR h ⟨by rw [List.length_append]; show (aR A r).length + 1 ≤ 8; omega, fun l hl => ?_⟩) (by omega) (by omega)
      rcases List.mem_append.mp hl with hl | hl
      · exact h2.2 l hl
      · rw [List.mem_singleton.mp hl]
        show 0 ≤ m ∧ m < 6 ∧ 1 ≤ aB A m ∧ aB A m ≤ 99
        omega
theorem WA_wkStep {B : AB} {x : Int} {n : Nat} (h : WA B) (hx : 0 ≤ x) (hn : n < 4) : WA (wkStep x B n) := WA_setW (WA_setR h ((h.2.2.2.1 n (by omega) (by omega)).lose hx))
theorem WA_lsN {A : AB} {x : Int} (h : WA A) (hx : 0 ≤ x) : ∀ n : Nat, n ≤ 4 → WA (lsN x A n)
  | 0, _ => h
  | n + 1, hn => WA_wkStep (WA_lsN h hx n (by omega)) hx (by omega)
theorem WA_lsA {A : AB} {x : Int} (h : WA A) (hx : 0 ≤ x) : WA (lsA x A) := WA_lsN h hx 4 (Nat.le_refl 4)
theorem WA_weekA {A : AB} (h : WA A) : WA (weekA A) := WA_setWk (WA_lsA h h.2.2.2.2.1)
theorem lsN_wr {x : Int} {A : AB} : ∀ n : Nat, aWr (lsN x A n) = aWr A
  | 0 => rfl
  | n + 1 => lsN_wr n
theorem lsN_wk {x : Int} {A : AB} : ∀ n : Nat, aWk (lsN x A n) = aWk A
  | 0 => rfl
  | n + 1 => lsN_wk n
theorem lsN_S {x : Int} {A : AB} : ∀ n : Nat, aS (lsN x A n) = aS A
  | 0 => rfl
  | n + 1 => lsN_S n
