/-! fewer known locals; loops -/
def ab_le : List (Option Value) → List (Option Value) → Prop
  | [], _ => True
  | none :: a, b => ab_le a b.tail
  | some v :: a, b => b.head? = some (some v) ∧ ab_le a b.tail
theorem ab_le_get : ∀ {a b : List (Option Value)}, ab_le a b → ∀ (i : Nat) (v : Value), a[i]? = some (some v) → b[i]? = some (some v)
  | [], b, _, i, v, h => by simp at h
  | none :: a, b, hl, i, v, h => by
    cases i with
    | zero => cases h
    | succ i =>
      have h2 := ab_le_get (show ab_le a b.tail from hl) i v h
      cases b with
      | nil => simp at h2
      | cons x b => exact h2
  | some w :: a, b, hl, i, v, h => by
    have hl' : b.head? = some (some w) ∧ ab_le a b.tail := hl
    cases b with
    | nil => cases hl'.1
    | cons x b =>
      cases i with
      | zero =>
        cases h
        exact hl'.1
      | succ i => exact ab_le_get hl'.2 i v h
theorem R2.weak {Y : ab_Y} {d pc : Nat} {σ : ab_S} {ls ls' : List (Option Value)} {st : List Value} {Q : ab_S → Option Value → Prop} (hle : ab_le ls' ls) (h : R2 Y d σ pc ls' st Q) : R2 Y d σ pc ls st Q := by
  intro p l e R s m args below meth c D dA bs b tc ts H locs cells slots arr Z hC hH hS hL hr
  exact h hC hH hS ⟨hL.1, hL.2.1, fun i v hi => hL.2.2 i v (ab_le_get hle i v hi)⟩ hr
theorem C2.mono {Y : ab_Y} {d : Nat} {σ : ab_S} {av : List Value} {Q Q' : ab_S → Option Value → Prop} (h : C2 Y d σ av Q) (hq : ∀ σ' r, Q σ' r → Q' σ' r) : C2 Y d σ av Q' := by
  intro l D dA bs b
  have h0 := h l D dA bs b
  intro p e ha hc hk s m args below hf happ hP hK
  obtain ⟨k, o, h1, h2, h3, ⟨⟨M', r, e1, ⟨σ', e2, q⟩, hH⟩, hF⟩, hL⟩ := h0 p e ha hc hk s m args below hf happ hP hK
  exact ⟨k, o, h1, h2, h3, ⟨⟨M', r, e1, ⟨σ', e2, hq _ _ q⟩, hH⟩, hF⟩, hL⟩
