/-! the shape: which cell stands where -/
def ab_chk (kd n δ kd' n' : Nat) : List (Nat × Nat) → Bool
  | [] => true
  | x :: r => (!(Nat.beq x.1 kd && Nat.beq x.2 n) || (match (x :: r)[δ]? with | some y => Nat.beq y.1 kd' && Nat.beq y.2 n' | none => false)) && ab_chk kd n δ kd' n' r
theorem ab_chk_get {kd n δ kd' n' : Nat} : ∀ {l : List (Nat × Nat)}, ab_chk kd n δ kd' n' l = true → ∀ j : Nat, l[j]? = some (kd, n) → l[j + δ]? = some (kd', n')
  | [], _, j, h => by simp at h
  | x :: r, hc, j, h => by
    have hc' : ((!(Nat.beq x.1 kd && Nat.beq x.2 n) || (match (x :: r)[δ]? with | some y => Nat.beq y.1 kd' && Nat.beq y.2 n' | none => false)) && ab_chk kd n δ kd' n' r) = true := hc
    rw [Bool.and_eq_true] at hc'
    cases j with
    | zero =>
      have hx : x = (kd, n) := Option.some.inj h
      subst hx
      have h1 := hc'.1
      rw [Nat.beq_refl, Nat.beq_refl, Bool.and_true, Bool.not_true, Bool.false_or] at h1
      rw [Nat.zero_add]
      cases hy : ((kd, n) :: r)[δ]? with
      | none => rw [hy] at h1; cases h1
      | some y =>
        rw [hy] at h1
        have h2 : (Nat.beq y.1 kd' && Nat.beq y.2 n') = true := h1
        rw [Bool.and_eq_true] at h2
        obtain ⟨y1, y2⟩ := y
        have e1 : y1 = kd' := Nat.eq_of_beq_eq_true h2.1
        have e2 : y2 = n' := Nat.eq_of_beq_eq_true h2.2
        rw [e1, e2]
    | succ j =>
      rw [show j + 1 + δ = (j + δ) + 1 by omega, List.getElem?_cons_succ]
      exact ab_chk_get hc'.2 j h
theorem kd_sub {kd n δ kd' n' : Nat} (hc : ab_chk kd n δ kd' n' ab_shp = true) {a δz : Int} (hz : (δ : Int) = δz) (h : kd_ a kd n) : kd_ (a + δz) kd' n' := by
  obtain ⟨h0, h1⟩ := h
  have h2 := ab_chk_get hc _ h1
  refine ⟨by omega, ?_⟩
  rw [← h2]
  congr 1
  omega
theorem kd_rope {a : Int} (h : kd_ a 5 4) : kd_ (a + 1) 10 8 ∧ kd_ (a + 2) 10 8 ∧ kd_ (a + 3) 10 8 :=
  ⟨kd_sub (δ := 1) (by decide +kernel) rfl h, kd_sub (δ := 2) (by decide +kernel) rfl h, kd_sub (δ := 3) (by decide +kernel) rfl h⟩
theorem kd_pairs {a : Int} (h : kd_ a 3 3) : kd_ (a + 1) 10 6 ∧ kd_ (a + 2) 10 6 :=
  ⟨kd_sub (δ := 1) (by decide +kernel) rfl h, kd_sub (δ := 2) (by decide +kernel) rfl h⟩
theorem kd_pad {a : Int} (h : kd_ a 2 2) : kd_ (a + 1) 10 60 :=
  kd_sub (δ := 1) (by decide +kernel) rfl h
theorem kd_abbey {a : Int} (h : kd_ a 0 8) : kd_ (a + 1) 10 6 ∧ kd_ (a + 2) 10 6 ∧ kd_ (a + 3) 10 6 ∧ kd_ (a + 4) 10 6 ∧ kd_ (a + 5) 12 4 ∧ kd_ (a + 6) 10 4 :=
  ⟨kd_sub (δ := 1) (by decide +kernel) rfl h, kd_sub (δ := 2) (by decide +kernel) rfl h, kd_sub (δ := 3) (by decide +kernel) rfl h, kd_sub (δ := 4) (by decide +kernel) rfl h, kd_sub (δ := 5) (by decide +kernel) rfl h, kd_sub (δ := 6) (by decide +kernel) rfl h⟩
theorem kd_whole {a : Int} (h : kd_ a 6 3) : kd_ (a + 1) 0 8 ∧ kd_ (a + 24) 3 3 ∧ kd_ (a + 27) 3 3 :=
  ⟨kd_sub (δ := 1) (by decide +kernel) rfl h, kd_sub (δ := 24) (by decide +kernel) rfl h, kd_sub (δ := 27) (by decide +kernel) rfl h⟩
theorem kd_crossing {a : Int} (h : kd_ a 1 4) : kd_ (a + 1) 3 3 ∧ kd_ (a + 4) 10 7 ∧ kd_ (a + 5) 10 448 ∧ kd_ (a + 6) 10 6 :=
  ⟨kd_sub (δ := 1) (by decide +kernel) rfl h, kd_sub (δ := 4) (by decide +kernel) rfl h, kd_sub (δ := 5) (by decide +kernel) rfl h, kd_sub (δ := 6) (by decide +kernel) rfl h⟩
theorem kd_renewal {a : Int} (h : kd_ a 4 9) : kd_ (a + 1) 14 5 ∧ kd_ (a + 117) 15 4 ∧ kd_ (a + 122) 15 4 ∧ kd_ (a + 127) 10 6 ∧ kd_ (a + 128) 10 4 ∧ kd_ (a + 129) 10 4 :=
  ⟨kd_sub (δ := 1) (by decide +kernel) rfl h, kd_sub (δ := 117) (by decide +kernel) rfl h, kd_sub (δ := 122) (by decide +kernel) rfl h, kd_sub (δ := 127) (by decide +kernel) rfl h, kd_sub (δ := 128) (by decide +kernel) rfl h, kd_sub (δ := 129) (by decide +kernel) rfl h⟩
theorem kd_wigs {a : Int} (h : kd_ a 7 4) : kd_ (a + 1) 10 64 ∧ kd_ (a + 2) 10 241 ∧ kd_ (a + 3) 10 64 :=
  ⟨kd_sub (δ := 1) (by decide +kernel) rfl h, kd_sub (δ := 2) (by decide +kernel) rfl h, kd_sub (δ := 3) (by decide +kernel) rfl h⟩
theorem kd_hb {a : Int} (h : kd_ a 8 8) : kd_ (a + 1) 2 2 ∧ kd_ (a + 3) 6 3 ∧ kd_ (a + 33) 13 2 ∧ kd_ (a + 94) 11 2 ∧ kd_ (a + 95) 0 8 ∧ kd_ (a + 118) 1 4 ∧ kd_ (a + 125) 4 9 ∧ kd_ (a + 255) 7 4 :=
  ⟨kd_sub (δ := 1) (by decide +kernel) rfl h, kd_sub (δ := 3) (by decide +kernel) rfl h, kd_sub (δ := 33) (by decide +kernel) rfl h, kd_sub (δ := 94) (by decide +kernel) rfl h, kd_sub (δ := 95) (by decide +kernel) rfl h, kd_sub (δ := 118) (by decide +kernel) rfl h, kd_sub (δ := 125) (by decide +kernel) rfl h, kd_sub (δ := 255) (by decide +kernel) rfl h⟩
theorem kd_model {a : Int} (h : kd_ a 9 37) : kd_ (a + 1) 10 6 ∧ kd_ (a + 2) 10 6 ∧ kd_ (a + 3) 10 6 ∧ kd_ (a + 4) 10 6 ∧ kd_ (a + 5) 10 32 ∧ kd_ (a + 6) 10 32 ∧ kd_ (a + 7) 10 32 ∧ kd_ (a + 8) 10 4 ∧ kd_ (a + 9) 10 6 ∧ kd_ (a + 10) 10 6 ∧ kd_ (a + 11) 10 6 ∧ kd_ (a + 12) 10 6 ∧ kd_ (a + 13) 10 6 ∧ kd_ (a + 14) 10 6 ∧ kd_ (a + 15) 10 6 ∧ kd_ (a + 16) 10 32 ∧ kd_ (a + 17) 10 32 ∧ kd_ (a + 18) 10 32 ∧ kd_ (a + 19) 10 4 ∧ kd_ (a + 20) 10 60 ∧ kd_ (a + 21) 10 6 ∧ kd_ (a + 22) 10 4 ∧ kd_ (a + 23) 10 4 ∧ kd_ (a + 24) 10 241 ∧ kd_ (a + 25) 10 360 ∧ kd_ (a + 26) 11 2 :=
  ⟨kd_sub (δ := 1) (by decide +kernel) rfl h, kd_sub (δ := 2) (by decide +kernel) rfl h, kd_sub (δ := 3) (by decide +kernel) rfl h, kd_sub (δ := 4) (by decide +kernel) rfl h, kd_sub (δ := 5) (by decide +kernel) rfl h, kd_sub (δ := 6) (by decide +kernel) rfl h, kd_sub (δ := 7) (by decide +kernel) rfl h, kd_sub (δ := 8) (by decide +kernel) rfl h, kd_sub (δ := 9) (by decide +kernel) rfl h, kd_sub (δ := 10) (by decide +kernel) rfl h, kd_sub (δ := 11) (by decide +kernel) rfl h, kd_sub (δ := 12) (by decide +kernel) rfl h, kd_sub (δ := 13) (by decide +kernel) rfl h, kd_sub (δ := 14) (by decide +kernel) rfl h, kd_sub (δ := 15) (by decide +kernel) rfl h, kd_sub (δ := 16) (by decide +kernel) rfl h, kd_sub (δ := 17) (by decide +kernel) rfl h, kd_sub (δ := 18) (by decide +kernel) rfl h, kd_sub (δ := 19) (by decide +kernel) rfl h, kd_sub (δ := 20) (by decide +kernel) rfl h, kd_sub (δ := 21) (by decide +kernel) rfl h, kd_sub (δ := 22) (by decide +kernel) rfl h, kd_sub (δ := 23) (by decide +kernel) rfl h, kd_sub (δ := 24) (by decide +kernel) rfl h, kd_sub (δ := 25) (by decide +kernel) rfl h, kd_sub (δ := 26) (by decide +kernel) rfl h⟩
theorem kd_ropes {a i : Int} (h : kd_ a 0 8) (h1 : 0 ≤ i) (h2 : i < 4) : kd_ (a + 5 + (2 + 4 * i)) 5 4 := by
  rcases (show i = 0 ∨ i = 1 ∨ i = 2 ∨ i = 3 by omega) with rfl | rfl | rfl | rfl
  · have := kd_sub (δ := 7) (kd' := 5) (n' := 4) (by decide +kernel) rfl h
    rwa [show a + ((7 : Nat) : Int) = a + 5 + (2 + 4 * 0) by omega] at this
  · have := kd_sub (δ := 11) (kd' := 5) (n' := 4) (by decide +kernel) rfl h
    rwa [show a + ((11 : Nat) : Int) = a + 5 + (2 + 4 * 1) by omega] at this
  · have := kd_sub (δ := 15) (kd' := 5) (n' := 4) (by decide +kernel) rfl h
    rwa [show a + ((15 : Nat) : Int) = a + 5 + (2 + 4 * 2) by omega] at this
  · have := kd_sub (δ := 19) (kd' := 5) (n' := 4) (by decide +kernel) rfl h
    rwa [show a + ((19 : Nat) : Int) = a + 5 + (2 + 4 * 3) by omega] at this
theorem kd_images {a i : Int} (h : kd_ a 8 8) (h1 : 0 ≤ i) (h2 : i < 2) : kd_ (a + 33 + (1 + 30 * i)) 6 3 := by
  rcases (show i = 0 ∨ i = 1 by omega) with rfl | rfl
  · have := kd_sub (δ := 34) (kd' := 6) (n' := 3) (by decide +kernel) rfl h
    rwa [show a + ((34 : Nat) : Int) = a + 33 + (1 + 30 * 0) by omega] at this
  · have := kd_sub (δ := 64) (kd' := 6) (n' := 3) (by decide +kernel) rfl h
    rwa [show a + ((64 : Nat) : Int) = a + 33 + (1 + 30 * 1) by omega] at this
theorem kd_ahead {a i : Int} (h : kd_ a 4 9) (h1 : 0 ≤ i) (h2 : i < 5) : kd_ (a + 1 + (1 + 23 * i)) 0 8 := by
  rcases (show i = 0 ∨ i = 1 ∨ i = 2 ∨ i = 3 ∨ i = 4 by omega) with rfl | rfl | rfl | rfl | rfl
  · have := kd_sub (δ := 2) (kd' := 0) (n' := 8) (by decide +kernel) rfl h
    rwa [show a + ((2 : Nat) : Int) = a + 1 + (1 + 23 * 0) by omega] at this
  · have := kd_sub (δ := 25) (kd' := 0) (n' := 8) (by decide +kernel) rfl h
    rwa [show a + ((25 : Nat) : Int) = a + 1 + (1 + 23 * 1) by omega] at this
  · have := kd_sub (δ := 48) (kd' := 0) (n' := 8) (by decide +kernel) rfl h
    rwa [show a + ((48 : Nat) : Int) = a + 1 + (1 + 23 * 2) by omega] at this
  · have := kd_sub (δ := 71) (kd' := 0) (n' := 8) (by decide +kernel) rfl h
    rwa [show a + ((71 : Nat) : Int) = a + 1 + (1 + 23 * 3) by omega] at this
  · have := kd_sub (δ := 94) (kd' := 0) (n' := 8) (by decide +kernel) rfl h
    rwa [show a + ((94 : Nat) : Int) = a + 1 + (1 + 23 * 4) by omega] at this
theorem kd_wornr {a i : Int} (h : kd_ a 4 9) (h1 : 0 ≤ i) (h2 : i < 4) : kd_ (a + 117 + (1 + 1 * i)) 10 4 := by
  rcases (show i = 0 ∨ i = 1 ∨ i = 2 ∨ i = 3 by omega) with rfl | rfl | rfl | rfl
  · have := kd_sub (δ := 118) (kd' := 10) (n' := 4) (by decide +kernel) rfl h
    rwa [show a + ((118 : Nat) : Int) = a + 117 + (1 + 1 * 0) by omega] at this
  · have := kd_sub (δ := 119) (kd' := 10) (n' := 4) (by decide +kernel) rfl h
    rwa [show a + ((119 : Nat) : Int) = a + 117 + (1 + 1 * 1) by omega] at this
  · have := kd_sub (δ := 120) (kd' := 10) (n' := 4) (by decide +kernel) rfl h
    rwa [show a + ((120 : Nat) : Int) = a + 117 + (1 + 1 * 2) by omega] at this
  · have := kd_sub (δ := 121) (kd' := 10) (n' := 4) (by decide +kernel) rfl h
    rwa [show a + ((121 : Nat) : Int) = a + 117 + (1 + 1 * 3) by omega] at this
theorem kd_eatenr {a i : Int} (h : kd_ a 4 9) (h1 : 0 ≤ i) (h2 : i < 4) : kd_ (a + 122 + (1 + 1 * i)) 10 4 := by
  rcases (show i = 0 ∨ i = 1 ∨ i = 2 ∨ i = 3 by omega) with rfl | rfl | rfl | rfl
  · have := kd_sub (δ := 123) (kd' := 10) (n' := 4) (by decide +kernel) rfl h
    rwa [show a + ((123 : Nat) : Int) = a + 122 + (1 + 1 * 0) by omega] at this
  · have := kd_sub (δ := 124) (kd' := 10) (n' := 4) (by decide +kernel) rfl h
    rwa [show a + ((124 : Nat) : Int) = a + 122 + (1 + 1 * 1) by omega] at this
  · have := kd_sub (δ := 125) (kd' := 10) (n' := 4) (by decide +kernel) rfl h
    rwa [show a + ((125 : Nat) : Int) = a + 122 + (1 + 1 * 2) by omega] at this
  · have := kd_sub (δ := 126) (kd' := 10) (n' := 4) (by decide +kernel) rfl h
    rwa [show a + ((126 : Nat) : Int) = a + 122 + (1 + 1 * 3) by omega] at this
