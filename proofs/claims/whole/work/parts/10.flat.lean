/-! THE MEMORY BEHIND THE CONSTRUCTORS: a fixed shape, its numbers a function of cell and place; cell 0 is the script, its length stands at (-1, 0) -/
abbrev ab_S : Type := Int → Int → Int
def iv (x : Int) : Value := .int (Int32.ofInt x)
def rf (k : Int) : Value := .ref k.toNat
def lgv (x : Int) : Value := .long (Int64.ofInt x)
def ab_shp : List (Nat × Nat) := [(8, 8), (2, 2), (10, 60), (6, 3), (0, 8), (10, 6), (10, 6), (10, 6), (10, 6), (12, 4), (10, 4), (5, 4), (10, 8), (10, 8), (10, 8), (5, 4), (10, 8), (10, 8), (10, 8), (5, 4), (10, 8), (10, 8), (10, 8), (5, 4), (10, 8), (10, 8), (10, 8), (3, 3), (10, 6), (10, 6), (3, 3), (10, 6), (10, 6), (13, 2), (6, 3), (0, 8), (10, 6), (10, 6), (10, 6), (10, 6), (12, 4), (10, 4), (5, 4), (10, 8), (10, 8), (10, 8), (5, 4), (10, 8), (10, 8), (10, 8), (5, 4), (10, 8), (10, 8), (10, 8), (5, 4), (10, 8), (10, 8), (10, 8), (3, 3), (10, 6), (10, 6), (3, 3), (10, 6), (10, 6), (6, 3), (0, 8), (10, 6), (10, 6), (10, 6), (10, 6), (12, 4), (10, 4), (5, 4), (10, 8), (10, 8), (10, 8), (5, 4), (10, 8), (10, 8), (10, 8), (5, 4), (10, 8), (10, 8), (10, 8), (5, 4), (10, 8), (10, 8), (10, 8), (3, 3), (10, 6), (10, 6), (3, 3), (10, 6), (10, 6), (11, 2), (0, 8), (10, 6), (10, 6), (10, 6), (10, 6), (12, 4), (10, 4), (5, 4), (10, 8), (10, 8), (10, 8), (5, 4), (10, 8), (10, 8), (10, 8), (5, 4), (10, 8), (10, 8), (10, 8), (5, 4), (10, 8), (10, 8), (10, 8), (1, 4), (3, 3), (10, 6), (10, 6), (10, 7), (10, 448), (10, 6), (4, 9), (14, 5), (0, 8), (10, 6), (10, 6), (10, 6), (10, 6), (12, 4), (10, 4), (5, 4), (10, 8), (10, 8), (10, 8), (5, 4), (10, 8), (10, 8), (10, 8), (5, 4), (10, 8), (10, 8), (10, 8), (5, 4), (10, 8), (10, 8), (10, 8), (0, 8), (10, 6), (10, 6), (10, 6), (10, 6), (12, 4), (10, 4), (5, 4), (10, 8), (10, 8), (10, 8), (5, 4), (10, 8), (10, 8), (10, 8), (5, 4), (10, 8), (10, 8), (10, 8), (5, 4), (10, 8), (10, 8), (10, 8), (0, 8), (10, 6), (10, 6), (10, 6), (10, 6), (12, 4), (10, 4), (5, 4), (10, 8), (10, 8), (10, 8), (5, 4), (10, 8), (10, 8), (10, 8), (5, 4), (10, 8), (10, 8), (10, 8), (5, 4), (10, 8), (10, 8), (10, 8), (0, 8), (10, 6), (10, 6), (10, 6), (10, 6), (12, 4), (10, 4), (5, 4), (10, 8), (10, 8), (10, 8), (5, 4), (10, 8), (10, 8), (10, 8), (5, 4), (10, 8), (10, 8), (10, 8), (5, 4), (10, 8), (10, 8), (10, 8), (0, 8), (10, 6), (10, 6), (10, 6), (10, 6), (12, 4), (10, 4), (5, 4), (10, 8), (10, 8), (10, 8), (5, 4), (10, 8), (10, 8), (10, 8), (5, 4), (10, 8), (10, 8), (10, 8), (5, 4), (10, 8), (10, 8), (10, 8), (15, 4), (10, 4), (10, 4), (10, 4), (10, 4), (15, 4), (10, 4), (10, 4), (10, 4), (10, 4), (10, 6), (10, 4), (10, 4), (7, 4), (10, 64), (10, 241), (10, 64), (9, 37), (10, 6), (10, 6), (10, 6), (10, 6), (10, 32), (10, 32), (10, 32), (10, 4), (10, 6), (10, 6), (10, 6), (10, 6), (10, 6), (10, 6), (10, 6), (10, 32), (10, 32), (10, 32), (10, 4), (10, 60), (10, 6), (10, 4), (10, 4), (10, 241), (10, 360), (11, 2)]
def ab_tg (kd i : Nat) : Option Nat := match kd with
  | 0 => (match i with | 0 => some 1 | 1 => some 2 | 2 => some 3 | 3 => some 4 | 4 => some 5 | 5 => some 6 | _ => none)
  | 1 => (match i with | 0 => some 4 | 1 => some 5 | 2 => some 6 | 3 => some 1 | _ => none)
  | 2 => (match i with | 0 => some 1 | _ => none)
  | 3 => (match i with | 0 => some 1 | 1 => some 2 | _ => none)
  | 4 => (match i with | 0 => some 1 | 1 => some 117 | 2 => some 122 | 3 => some 127 | 4 => some 128 | 5 => some 129 | _ => none)
  | 5 => (match i with | 0 => some 1 | 1 => some 2 | 2 => some 3 | _ => none)
  | 6 => (match i with | 0 => some 1 | 1 => some 24 | 2 => some 27 | _ => none)
  | 7 => (match i with | 0 => some 1 | 1 => some 2 | 2 => some 3 | _ => none)
  | 8 => (match i with | 0 => some 1 | 1 => some 3 | 2 => some 33 | 3 => some 94 | 4 => some 95 | 5 => some 118 | 6 => some 125 | 7 => some 255 | _ => none)
  | 9 => (match i with | 0 => some 1 | 1 => some 2 | 2 => some 3 | 3 => some 4 | 4 => some 5 | 5 => some 6 | 6 => some 7 | 7 => some 8 | 10 => some 9 | 11 => some 10 | 13 => some 11 | 14 => some 12 | 16 => some 13 | 17 => some 14 | 18 => some 15 | 19 => some 16 | 20 => some 17 | 21 => some 18 | 22 => some 19 | 24 => some 20 | 28 => some 21 | 29 => some 22 | 30 => some 23 | 32 => some 24 | 33 => some 25 | 34 => some 26 | _ => none)
  | 12 => some (2 + 4 * i)
  | 13 => some (1 + 30 * i)
  | 14 => some (1 + 23 * i)
  | 15 => some (1 + i)
  | _ => none
def ab_sv (σ : ab_S) (k kd i : Nat) : Value := match ab_tg kd i with
  | some δ => .ref (k + δ)
  | none => iv (σ k i)
def ab_cel (σ : ab_S) (k : Nat) (q : Nat × Nat) : ab_C := (q.1, (List.range q.2).map (fun i => ab_sv σ k q.1 i))
def ab_scr (σ : ab_S) : ab_C := (16, (List.range (σ (-1) 0).toNat).map (fun i : Nat => iv (σ 0 (i : Int))))
def ab_mk (σ : ab_S) : ab_M := ab_scr σ :: ab_shp.mapIdx (fun j q => ab_cel σ (j + 1) q)
/-- the cell k is of a kind and of a size -/
def kd_ (k : Int) (kd n : Nat) : Prop := 0 < k ∧ ab_shp[k.toNat - 1]? = some (kd, n)
theorem ab_mk_get {σ : ab_S} {k : Int} {kd n : Nat} (h : kd_ k kd n) : (ab_mk σ)[k.toNat]? = some (kd, (List.range n).map (fun i => ab_sv σ k.toNat kd i)) := by
  obtain ⟨h0, h1⟩ := h
  have e : k.toNat = (k.toNat - 1) + 1 := by omega
  unfold ab_mk
  rw [e, List.getElem?_cons_succ, List.getElem?_mapIdx, h1]
  rfl
theorem ab_mk_len (σ : ab_S) : (ab_mk σ).length = 1 + ab_shp.length := by
  unfold ab_mk
  rw [List.length_cons, List.length_mapIdx, Nat.add_comm]
def up (σ : ab_S) (k i v : Int) : ab_S := fun k' i' => if k' = k ∧ i' = i then v else σ k' i'
theorem up_same (σ : ab_S) (k i v : Int) : up σ k i v k i = v := if_pos ⟨rfl, rfl⟩
theorem up_ne {σ : ab_S} {k i v k' i' : Int} (h : ¬ (k' = k ∧ i' = i)) : up σ k i v k' i' = σ k' i' := if_neg h
/-- a number put into a place -/
theorem ab_mk_up {σ : ab_S} {k : Int} {kd n i : Nat} {x : Int} (h : kd_ k kd n) (hi : i < n) (ht : ab_tg kd i = none) : (ab_mk σ).set k.toNat (kd, ((List.range n).map (fun i => ab_sv σ k.toNat kd i)).set i (iv x)) = ab_mk (up σ k i x) := by
  obtain ⟨h0, h1⟩ := h
  have hk1 : k.toNat - 1 < ab_shp.length := (List.getElem?_eq_some_iff.mp h1).1
  have hkk : ((k.toNat : Nat) : Int) = k := by omega
  apply List.ext_getElem?
  intro j
  rw [List.getElem?_set]
  by_cases e : k.toNat = j
  · subst e
    rw [if_pos rfl, if_pos (by rw [ab_mk_len]; omega)]
    rw [ab_mk_get ⟨h0, h1⟩]
    refine congrArg some (congrArg (Prod.mk kd) ?_)
    apply List.ext_getElem?
    intro q
    rw [List.getElem?_set, List.length_map, List.length_range, List.getElem?_map, List.getElem?_map]
    by_cases eq : i = q
    · subst eq
      rw [if_pos rfl, if_pos hi, List.getElem?_range hi]
      show some (iv x) = some (ab_sv (up σ k i x) k.toNat kd i)
      unfold ab_sv
      rw [ht]
      show some (iv x) = some (iv (up σ k i x (k.toNat : Int) i))
      rw [hkk, up_same]
    · rw [if_neg eq]
      by_cases hq : q < n
      · rw [List.getElem?_range hq]
        show some (ab_sv σ k.toNat kd q) = some (ab_sv (up σ k i x) k.toNat kd q)
        unfold ab_sv
        cases ab_tg kd q with
        | some δ => rfl
        | none =>
          show some (iv (σ (k.toNat : Int) q)) = some (iv (up σ k i x (k.toNat : Int) q))
          rw [up_ne (by omega)]
      · rw [List.getElem?_eq_none (by rw [List.length_range]; omega)]
        rfl
  · rw [if_neg e]
    unfold ab_mk
    cases j with
    | zero =>
      show some (ab_scr σ) = some (ab_scr (up σ k i x))
      unfold ab_scr
      rw [up_ne (k' := -1) (by omega)]
      refine congrArg some (congrArg (Prod.mk 16) ?_)
      apply List.map_congr_left
      intro q hq
      rw [up_ne (k' := 0) (by omega)]
    | succ j =>
      rw [List.getElem?_cons_succ, List.getElem?_cons_succ, List.getElem?_mapIdx, List.getElem?_mapIdx]
      cases ab_shp[j]? with
      | none => rfl
      | some q =>
        show some (ab_cel σ (j + 1) q) = some (ab_cel (up σ k i x) (j + 1) q)
        unfold ab_cel
        refine congrArg some (congrArg (Prod.mk q.1) ?_)
        apply List.map_congr_left
        intro z hz
        unfold ab_sv
        cases ab_tg q.1 z with
        | some δ => rfl
        | none =>
          show iv (σ ((j + 1 : Nat) : Int) z) = iv (up σ k i x ((j + 1 : Nat) : Int) z)
          rw [up_ne (by omega)]
def R2 (Y : ab_Y) (d : Nat) (σ : ab_S) (pc : Nat) (ls : List (Option Value)) (st : List Value) (Q : ab_S → Option Value → Prop) : Prop := ab_Run Y d 0 0 (ab_mk σ) pc ls st (fun M r => ∃ σ', M = ab_mk σ' ∧ Q σ' r)
def C2 (Y : ab_Y) (d : Nat) (σ : ab_S) (av : List Value) (Q : ab_S → Option Value → Prop) : Prop := ab_Call Y d 0 0 (ab_mk σ) av (fun M r => ∃ σ', M = ab_mk σ' ∧ Q σ' r)
/-- what a method answers: an int, a long, nothing -/
def PI (Q : ab_S → Int → Prop) : ab_S → Option Value → Prop := fun σ r => ∃ z, r = some (iv z) ∧ Q σ z
def PL (Q : ab_S → Int → Prop) : ab_S → Option Value → Prop := fun σ r => ∃ z, r = some (lgv z) ∧ Q σ z
def PV (Q : ab_S → Prop) : ab_S → Option Value → Prop := fun σ r => r = none ∧ Q σ
theorem C2.of {Y : ab_Y} {d : Nat} {σ : ab_S} {av : List Value} {Q : ab_S → Option Value → Prop} (hy : plainName Y.1.cls = true) (hn : (ab_args av).length ≤ Y.2.2.1) (h : R2 Y d σ 0 (ab_pad Y.2.2.1 (ab_args av)) [] Q) : C2 Y d σ av Q := ab_Call.of hy hn h
theorem R2.mono {Y : ab_Y} {d pc : Nat} {σ : ab_S} {ls : List (Option Value)} {st : List Value} {Q Q' : ab_S → Option Value → Prop} (h : R2 Y d σ pc ls st Q) (hq : ∀ σ' r, Q σ' r → Q' σ' r) : R2 Y d σ pc ls st Q' := ab_Run.mono h (fun M r ⟨σ', e, q⟩ => ⟨σ', e, hq _ _ q⟩)
theorem iv_inj_lt {x y : Int} (h1 : -2147483648 ≤ x) (h2 : x ≤ 2147483647) (h3 : -2147483648 ≤ y) (h4 : y ≤ 2147483647) : Int32.ofInt x < Int32.ofInt y ↔ x < y := by
  rw [Int32.lt_iff_toInt_lt, Int32.toInt_ofInt, Int32.toInt_ofInt]
  have e1 : x.bmod Int32.size = x := Int.bmod_eq_of_le (by show -(4294967296/2 : Int) ≤ x; omega) (by show x < (4294967296 + 1)/2; omega)
  have e2 : y.bmod Int32.size = y := Int.bmod_eq_of_le (by show -(4294967296/2 : Int) ≤ y; omega) (by show y < (4294967296 + 1)/2; omega)
  rw [e1, e2]
theorem iv_inj_le {x y : Int} (h1 : -2147483648 ≤ x) (h2 : x ≤ 2147483647) (h3 : -2147483648 ≤ y) (h4 : y ≤ 2147483647) : Int32.ofInt x ≤ Int32.ofInt y ↔ x ≤ y := by
  rw [Int32.le_iff_toInt_le, Int32.toInt_ofInt, Int32.toInt_ofInt]
  have e1 : x.bmod Int32.size = x := Int.bmod_eq_of_le (by show -(4294967296/2 : Int) ≤ x; omega) (by show x < (4294967296 + 1)/2; omega)
  have e2 : y.bmod Int32.size = y := Int.bmod_eq_of_le (by show -(4294967296/2 : Int) ≤ y; omega) (by show y < (4294967296 + 1)/2; omega)
  rw [e1, e2]
theorem iv_toInt {x : Int} (h1 : -2147483648 ≤ x) (h2 : x ≤ 2147483647) : (Int32.ofInt x).toInt = x := by
  rw [Int32.toInt_ofInt]
  exact Int.bmod_eq_of_le (by show -(4294967296/2 : Int) ≤ x; omega) (by show x < (4294967296 + 1)/2; omega)
theorem iv_inj_eq {x y : Int} (h1 : -2147483648 ≤ x) (h2 : x ≤ 2147483647) (h3 : -2147483648 ≤ y) (h4 : y ≤ 2147483647) : Int32.ofInt x = Int32.ofInt y ↔ x = y := by
  rw [← Int32.toInt_inj, iv_toInt h1 h2, iv_toInt h3 h4]
theorem iv_ix {x : Int} {n : Nat} (h1 : 0 ≤ x) (h2 : x < n) (hn : n < 2147483648) : ab_ix (Int32.ofInt x) n x.toNat := by
  refine ⟨?_, ?_, by omega⟩
  · have : ¬ Int32.ofInt x < Int32.ofInt 0 := by
      rw [iv_inj_lt (by omega) (by omega) (by omega) (by omega)]
      omega
    exact this
  · show (Int32.ofInt x).toInt.toNat = x.toNat
    rw [iv_toInt (by omega) (by omega)]
theorem lgv_toInt {x : Int} (h1 : -9223372036854775808 ≤ x) (h2 : x ≤ 9223372036854775807) : (Int64.ofInt x).toInt = x := by
  rw [Int64.toInt_ofInt]
  exact Int.bmod_eq_of_le (by show -(18446744073709551616/2 : Int) ≤ x; omega) (by show x < (18446744073709551616 + 1)/2; omega)
def ban (x y : Int) : Int := (Int32.ofInt x &&& Int32.ofInt y).toInt
def bor (x y : Int) : Int := (Int32.ofInt x ||| Int32.ofInt y).toInt
def bxo (x y : Int) : Int := (Int32.ofInt x ^^^ Int32.ofInt y).toInt
def bsl (x y : Int) : Int := (Int32.ofInt x <<< (Int32.ofInt y &&& 31)).toInt
def bsr (x y : Int) : Int := (Int32.ofInt x >>> (Int32.ofInt y &&& 31)).toInt
def bus (x y : Int) : Int := ((Int32.ofInt x).toUInt32 >>> ((Int32.ofInt y).toUInt32 &&& Int32.toUInt32 31)).toInt32.toInt
theorem ofInt_toInt32 (z : Int32) : Int32.ofInt z.toInt = z := Int32.ofInt_toInt z
theorem r_iconst {Y : ab_Y} {d : Nat} {σ : ab_S} {pc : Nat} {ls : List (Option Value)} {st : List Value} {Q : ab_S → Option Value → Prop} {z : Int} (hd : decode Y.2.1 pc = .ok (.iconst z, 1))  (kk : R2 Y d σ (pc + 1) ls (iv z :: st) Q)  : R2 Y d σ pc ls (st) Q := ab_iconst hd kk
theorem r_bipush {Y : ab_Y} {d : Nat} {σ : ab_S} {pc : Nat} {ls : List (Option Value)} {st : List Value} {Q : ab_S → Option Value → Prop} {z : Int} (hd : decode Y.2.1 pc = .ok (.bipush z, 2))  (kk : R2 Y d σ (pc + 2) ls (iv z :: st) Q) (hv : (Int8.ofInt z).toInt32 = Int32.ofInt z := by decide) : R2 Y d σ pc ls (st) Q := ab_bipush hd hv kk
theorem r_sipush {Y : ab_Y} {d : Nat} {σ : ab_S} {pc : Nat} {ls : List (Option Value)} {st : List Value} {Q : ab_S → Option Value → Prop} {z : Int} (hd : decode Y.2.1 pc = .ok (.sipush z, 3))  (kk : R2 Y d σ (pc + 3) ls (iv z :: st) Q) (hv : (Int16.ofInt z).toInt32 = Int32.ofInt z := by decide) : R2 Y d σ pc ls (st) Q := ab_sipush hd hv kk
theorem r_lconst {Y : ab_Y} {d : Nat} {σ : ab_S} {pc : Nat} {ls : List (Option Value)} {st : List Value} {Q : ab_S → Option Value → Prop} {z : Fin 2} {v : Int} (hd : decode Y.2.1 pc = .ok (.lconst z, 1)) (hv : Int64.ofNat (z : Nat) = Int64.ofInt v) (kk : R2 Y d σ (pc + 1) ls (lgv v :: st) Q)  : R2 Y d σ pc ls (st) Q := ab_lconst hd hv kk
theorem r_iadd {Y : ab_Y} {d : Nat} {σ : ab_S} {pc : Nat} {ls : List (Option Value)} {st : List Value} {Q : ab_S → Option Value → Prop} {x y : Int} (hd : decode Y.2.1 pc = .ok (.iadd, 1)) (kk : R2 Y d σ (pc + 1) ls (iv (x + y) :: st) Q) : R2 Y d σ pc ls (iv y :: iv x :: st) Q := by
  unfold iv at kk
  rw [Int32.ofInt_add] at kk
  exact ab_iadd hd kk
theorem r_isub {Y : ab_Y} {d : Nat} {σ : ab_S} {pc : Nat} {ls : List (Option Value)} {st : List Value} {Q : ab_S → Option Value → Prop} {x y : Int} (hd : decode Y.2.1 pc = .ok (.isub, 1)) (kk : R2 Y d σ (pc + 1) ls (iv (x - y) :: st) Q) : R2 Y d σ pc ls (iv y :: iv x :: st) Q := by
  unfold iv at kk
  rw [Int32.ofInt_sub] at kk
  exact ab_isub hd kk
theorem r_imul {Y : ab_Y} {d : Nat} {σ : ab_S} {pc : Nat} {ls : List (Option Value)} {st : List Value} {Q : ab_S → Option Value → Prop} {x y : Int} (hd : decode Y.2.1 pc = .ok (.imul, 1)) (kk : R2 Y d σ (pc + 1) ls (iv (x * y) :: st) Q) : R2 Y d σ pc ls (iv y :: iv x :: st) Q := by
  unfold iv at kk
  rw [Int32.ofInt_mul] at kk
  exact ab_imul hd kk
theorem r_iand {Y : ab_Y} {d : Nat} {σ : ab_S} {pc : Nat} {ls : List (Option Value)} {st : List Value} {Q : ab_S → Option Value → Prop} {x y : Int} (hd : decode Y.2.1 pc = .ok (.iand, 1)) (kk : R2 Y d σ (pc + 1) ls (iv (ban x y) :: st) Q) : R2 Y d σ pc ls (iv y :: iv x :: st) Q := by
  unfold iv ban at kk
  rw [ofInt_toInt32] at kk
  exact ab_iand hd kk
theorem r_ior {Y : ab_Y} {d : Nat} {σ : ab_S} {pc : Nat} {ls : List (Option Value)} {st : List Value} {Q : ab_S → Option Value → Prop} {x y : Int} (hd : decode Y.2.1 pc = .ok (.ior, 1)) (kk : R2 Y d σ (pc + 1) ls (iv (bor x y) :: st) Q) : R2 Y d σ pc ls (iv y :: iv x :: st) Q := by
  unfold iv bor at kk
  rw [ofInt_toInt32] at kk
  exact ab_ior hd kk
theorem r_ixor {Y : ab_Y} {d : Nat} {σ : ab_S} {pc : Nat} {ls : List (Option Value)} {st : List Value} {Q : ab_S → Option Value → Prop} {x y : Int} (hd : decode Y.2.1 pc = .ok (.ixor, 1)) (kk : R2 Y d σ (pc + 1) ls (iv (bxo x y) :: st) Q) : R2 Y d σ pc ls (iv y :: iv x :: st) Q := by
  unfold iv bxo at kk
  rw [ofInt_toInt32] at kk
  exact ab_ixor hd kk
theorem r_ishl {Y : ab_Y} {d : Nat} {σ : ab_S} {pc : Nat} {ls : List (Option Value)} {st : List Value} {Q : ab_S → Option Value → Prop} {x y : Int} (hd : decode Y.2.1 pc = .ok (.ishl, 1)) (kk : R2 Y d σ (pc + 1) ls (iv (bsl x y) :: st) Q) : R2 Y d σ pc ls (iv y :: iv x :: st) Q := by
  unfold iv bsl at kk
  rw [ofInt_toInt32] at kk
  exact ab_ishl hd kk
theorem r_ishr {Y : ab_Y} {d : Nat} {σ : ab_S} {pc : Nat} {ls : List (Option Value)} {st : List Value} {Q : ab_S → Option Value → Prop} {x y : Int} (hd : decode Y.2.1 pc = .ok (.ishr, 1)) (kk : R2 Y d σ (pc + 1) ls (iv (bsr x y) :: st) Q) : R2 Y d σ pc ls (iv y :: iv x :: st) Q := by
  unfold iv bsr at kk
  rw [ofInt_toInt32] at kk
  exact ab_ishr hd kk
theorem r_iushr {Y : ab_Y} {d : Nat} {σ : ab_S} {pc : Nat} {ls : List (Option Value)} {st : List Value} {Q : ab_S → Option Value → Prop} {x y : Int} (hd : decode Y.2.1 pc = .ok (.iushr, 1)) (kk : R2 Y d σ (pc + 1) ls (iv (bus x y) :: st) Q) : R2 Y d σ pc ls (iv y :: iv x :: st) Q := by
  unfold iv bus at kk
  rw [ofInt_toInt32] at kk
  exact ab_iushr hd rfl kk
theorem iv_ne0 {y : Int} (h1 : -2147483648 ≤ y) (h2 : y ≤ 2147483647) (h : y ≠ 0) : ¬ Int32.ofInt y = 0 := by
  have : ¬ Int32.ofInt y = Int32.ofInt 0 := by
    rw [iv_inj_eq h1 h2 (by omega) (by omega)]
    exact h
  exact this
theorem r_idiv {Y : ab_Y} {d : Nat} {σ : ab_S} {pc : Nat} {ls : List (Option Value)} {st : List Value} {Q : ab_S → Option Value → Prop} {x y : Int} (hd : decode Y.2.1 pc = .ok (.idiv, 1)) (kk : R2 Y d σ (pc + 1) ls (iv (x / y) :: st) Q) (h1 : 0 ≤ x := by omega) (h2 : x ≤ 2147483647 := by omega) (h3 : 0 < y := by omega) (h4 : y ≤ 2147483647 := by omega) : R2 Y d σ pc ls (iv y :: iv x :: st) Q := by
  have e : Int32.ofInt x / Int32.ofInt y = Int32.ofInt (x / y) := by
    rw [← Int32.toInt_inj, Int32.toInt_div, iv_toInt (by omega) h2, iv_toInt (by omega) h4, Int.tdiv_eq_ediv_of_nonneg h1]
    have h5 : 0 ≤ x / y := Int.ediv_nonneg h1 (by omega)
    have h6 : x / y ≤ x := Int.ediv_le_self y h1
    rw [iv_toInt (by omega) (by omega)]
    exact Int.bmod_eq_of_le (by show -(4294967296/2 : Int) ≤ _; omega) (by show _ < (4294967296 + 1)/2; omega)
  unfold iv at kk
  rw [← e] at kk
  exact ab_idiv hd (iv_ne0 (by omega) h4 (by omega)) kk
theorem r_irem {Y : ab_Y} {d : Nat} {σ : ab_S} {pc : Nat} {ls : List (Option Value)} {st : List Value} {Q : ab_S → Option Value → Prop} {x y : Int} (hd : decode Y.2.1 pc = .ok (.irem, 1)) (kk : R2 Y d σ (pc + 1) ls (iv (x.tmod y) :: st) Q) (h1 : -2147483648 ≤ x := by omega) (h2 : x ≤ 2147483647 := by omega) (h3 : 0 < y := by omega) (h4 : y ≤ 2147483647 := by omega) : R2 Y d σ pc ls (iv y :: iv x :: st) Q := by
  have e : Int32.ofInt x - Int32.ofInt x / Int32.ofInt y * Int32.ofInt y = Int32.ofInt (x.tmod y) := by
    rw [← Int32.toInt_inj, rem_toInt, iv_toInt h1 h2, iv_toInt (by omega) h4]
    have h5 := tmod_bounds (a := x) h3
    rw [iv_toInt (by omega) (by omega)]
  unfold iv at kk
  rw [← e] at kk
  exact ab_irem hd (iv_ne0 (by omega) h4 (by omega)) kk
theorem r_ladd {Y : ab_Y} {d : Nat} {σ : ab_S} {pc : Nat} {ls : List (Option Value)} {st : List Value} {Q : ab_S → Option Value → Prop} {x y : Int} (hd : decode Y.2.1 pc = .ok (.ladd, 1)) (kk : R2 Y d σ (pc + 1) ls (lgv (x + y) :: st) Q) : R2 Y d σ pc ls (lgv y :: lgv x :: st) Q := by
  unfold lgv at kk
  rw [Int64.ofInt_add] at kk
  exact ab_ladd hd kk
theorem r_lmul {Y : ab_Y} {d : Nat} {σ : ab_S} {pc : Nat} {ls : List (Option Value)} {st : List Value} {Q : ab_S → Option Value → Prop} {x y : Int} (hd : decode Y.2.1 pc = .ok (.lmul, 1)) (kk : R2 Y d σ (pc + 1) ls (lgv (x * y) :: st) Q) : R2 Y d σ pc ls (lgv y :: lgv x :: st) Q := by
  unfold lgv at kk
  rw [Int64.ofInt_mul] at kk
  exact ab_lmul hd kk
theorem lgv_ne0 {y : Int} (h1 : 0 < y) (h2 : y ≤ 9223372036854775807) : ¬ Int64.ofInt y = 0 := by
  intro h
  have h3 := congrArg Int64.toInt h
  rw [lgv_toInt (by omega) h2] at h3
  have h4 : (0 : Int64).toInt = 0 := by decide
  omega
theorem r_ldiv {Y : ab_Y} {d : Nat} {σ : ab_S} {pc : Nat} {ls : List (Option Value)} {st : List Value} {Q : ab_S → Option Value → Prop} {x y : Int} (hd : decode Y.2.1 pc = .ok (.ldiv, 1)) (kk : R2 Y d σ (pc + 1) ls (lgv (x / y) :: st) Q) (h1 : 0 ≤ x := by omega) (h2 : x ≤ 9223372036854775807 := by omega) (h3 : 0 < y := by omega) (h4 : y ≤ 9223372036854775807 := by omega) : R2 Y d σ pc ls (lgv y :: lgv x :: st) Q := by
  have e : Int64.ofInt x / Int64.ofInt y = Int64.ofInt (x / y) := by
    rw [← Int64.toInt_inj, Int64.toInt_div, lgv_toInt (by omega) h2, lgv_toInt (by omega) h4, Int.tdiv_eq_ediv_of_nonneg h1]
    have h5 : 0 ≤ x / y := Int.ediv_nonneg h1 (by omega)
    have h6 : x / y ≤ x := Int.ediv_le_self y h1
    rw [lgv_toInt (by omega) (by omega)]
    exact Int.bmod_eq_of_le (by show -(18446744073709551616/2 : Int) ≤ _; omega) (by show _ < (18446744073709551616 + 1)/2; omega)
  unfold lgv at kk
  rw [← e] at kk
  exact ab_ldiv hd (lgv_ne0 h3 h4) kk
theorem r_lrem {Y : ab_Y} {d : Nat} {σ : ab_S} {pc : Nat} {ls : List (Option Value)} {st : List Value} {Q : ab_S → Option Value → Prop} {x y : Int} (hd : decode Y.2.1 pc = .ok (.lrem, 1)) (kk : R2 Y d σ (pc + 1) ls (lgv (x % y) :: st) Q) (h1 : 0 ≤ x := by omega) (h2 : x ≤ 9223372036854775807 := by omega) (h3 : 0 < y := by omega) (h4 : y ≤ 9223372036854775807 := by omega) : R2 Y d σ pc ls (lgv y :: lgv x :: st) Q := by
  have h5 : 0 ≤ x / y := Int.ediv_nonneg h1 (by omega)
  have h6 : x / y ≤ x := Int.ediv_le_self y h1
  have e0 : Int64.ofInt x / Int64.ofInt y = Int64.ofInt (x / y) := by
    rw [← Int64.toInt_inj, Int64.toInt_div, lgv_toInt (by omega) h2, lgv_toInt (by omega) h4, Int.tdiv_eq_ediv_of_nonneg h1]
    rw [lgv_toInt (by omega) (by omega)]
    exact Int.bmod_eq_of_le (by show -(18446744073709551616/2 : Int) ≤ _; omega) (by show _ < (18446744073709551616 + 1)/2; omega)
  have e : Int64.ofInt x - Int64.ofInt x / Int64.ofInt y * Int64.ofInt y = Int64.ofInt (x % y) := by
    rw [e0, ← Int64.ofInt_mul, ← Int64.ofInt_sub, Int.emod_def, Int.mul_comm]
  unfold lgv at kk
  rw [← e] at kk
  exact ab_lrem hd (lgv_ne0 h3 h4) kk
theorem r_i2l {Y : ab_Y} {d : Nat} {σ : ab_S} {pc : Nat} {ls : List (Option Value)} {st : List Value} {Q : ab_S → Option Value → Prop} {x : Int} (hd : decode Y.2.1 pc = .ok (.i2l, 1)) (kk : R2 Y d σ (pc + 1) ls (lgv x :: st) Q) (h1 : -2147483648 ≤ x := by omega) (h2 : x ≤ 2147483647 := by omega) : R2 Y d σ pc ls (iv x :: st) Q := by
  refine ab_i2l hd ?_ kk
  rw [← Int64.toInt_inj, Int32.toInt_toInt64, iv_toInt h1 h2, lgv_toInt (by omega) (by omega)]
theorem r_l2i {Y : ab_Y} {d : Nat} {σ : ab_S} {pc : Nat} {ls : List (Option Value)} {st : List Value} {Q : ab_S → Option Value → Prop} {x : Int} (hd : decode Y.2.1 pc = .ok (.l2i, 1)) (kk : R2 Y d σ (pc + 1) ls (iv x :: st) Q) (h1 : -2147483648 ≤ x := by omega) (h2 : x ≤ 2147483647 := by omega) : R2 Y d σ pc ls (lgv x :: st) Q := by
  refine ab_l2i hd ?_ kk
  rw [← Int32.toInt_inj, Int64.toInt_toInt32, lgv_toInt (by omega) (by omega), iv_toInt h1 h2]
  exact Int.bmod_eq_of_le (by show -(4294967296/2 : Int) ≤ _; omega) (by show _ < (4294967296 + 1)/2; omega)
/-- what lcmp says -/
def lcm (x y : Int) : Int := if y < x then 1 else if x = y then 0 else -1
theorem r_lcmp {Y : ab_Y} {d : Nat} {σ : ab_S} {pc : Nat} {ls : List (Option Value)} {st : List Value} {Q : ab_S → Option Value → Prop} {x y : Int} (hd : decode Y.2.1 pc = .ok (.lcmp, 1)) (kk : R2 Y d σ (pc + 1) ls (iv (lcm x y) :: st) Q) (h1 : -9223372036854775808 ≤ x := by omega) (h2 : x ≤ 9223372036854775807 := by omega) (h3 : -9223372036854775808 ≤ y := by omega) (h4 : y ≤ 9223372036854775807 := by omega) : R2 Y d σ pc ls (lgv y :: lgv x :: st) Q := by
  have e : lg_cmp (Int64.ofInt x) (Int64.ofInt y) = Int32.ofInt (lcm x y) := by
    unfold lg_cmp lcm
    have a1 : Int64.ofInt x > Int64.ofInt y ↔ y < x := by
      rw [gt_iff_lt, Int64.lt_iff_toInt_lt, lgv_toInt h1 h2, lgv_toInt h3 h4]
    have a2 : Int64.ofInt x = Int64.ofInt y ↔ x = y := by
      rw [← Int64.toInt_inj, lgv_toInt h1 h2, lgv_toInt h3 h4]
    by_cases c1 : y < x
    · rw [if_pos (a1.mpr c1), if_pos c1]; rfl
    · rw [if_neg (fun h => c1 (a1.mp h)), if_neg c1]
      by_cases c2 : x = y
      · rw [if_pos (a2.mpr c2), if_pos c2]; rfl
      · rw [if_neg (fun h => c2 (a2.mp h)), if_neg c2]; rfl
  unfold iv at kk
  rw [← e] at kk
  exact ab_lcmp hd kk
theorem r_dup {Y : ab_Y} {d : Nat} {σ : ab_S} {pc : Nat} {ls : List (Option Value)} {st : List Value} {Q : ab_S → Option Value → Prop} {v : Value} (hd : decode Y.2.1 pc = .ok (.dup, 1))  (kk : R2 Y d σ (pc + 1) ls (v :: v :: st) Q) (hv : v.category = 1 := by rfl) : R2 Y d σ pc ls (v :: st) Q := ab_dup hd hv kk
theorem r_pop {Y : ab_Y} {d : Nat} {σ : ab_S} {pc : Nat} {ls : List (Option Value)} {st : List Value} {Q : ab_S → Option Value → Prop} {v : Value} (hd : decode Y.2.1 pc = .ok (.pop, 1))  (kk : R2 Y d σ (pc + 1) ls (st) Q) (hv : v.category = 1 := by rfl) : R2 Y d σ pc ls (v :: st) Q := ab_pop hd hv kk
theorem r_dup2 {Y : ab_Y} {d : Nat} {σ : ab_S} {pc : Nat} {ls : List (Option Value)} {st : List Value} {Q : ab_S → Option Value → Prop} {v w : Value} (hd : decode Y.2.1 pc = .ok (.dup2, 1))  (kk : R2 Y d σ (pc + 1) ls (v :: w :: v :: w :: st) Q) (hv : v.category = 1 := by rfl) (hw : w.category = 1 := by rfl) : R2 Y d σ pc ls (v :: w :: st) Q := ab_dup2 hd hv hw kk
theorem r_iload {Y : ab_Y} {d : Nat} {σ : ab_S} {pc : Nat} {ls : List (Option Value)} {st : List Value} {Q : ab_S → Option Value → Prop} {i : Nat} {x : Int} (hd : decode Y.2.1 pc = .ok (.iload i, 2)) (hl : ls[i]? = some (some (iv x))) (kk : R2 Y d σ (pc + 2) ls (iv x :: st) Q)  : R2 Y d σ pc ls (st) Q := ab_iload hd hl kk
theorem r_iload_n {Y : ab_Y} {d : Nat} {σ : ab_S} {pc : Nat} {ls : List (Option Value)} {st : List Value} {Q : ab_S → Option Value → Prop} {q : Fin 4} {x : Int} (hd : decode Y.2.1 pc = .ok (.iload_n q, 1)) (hl : ls[(q : Nat)]? = some (some (iv x))) (kk : R2 Y d σ (pc + 1) ls (iv x :: st) Q)  : R2 Y d σ pc ls (st) Q := ab_iload_n hd hl kk
theorem r_lload {Y : ab_Y} {d : Nat} {σ : ab_S} {pc : Nat} {ls : List (Option Value)} {st : List Value} {Q : ab_S → Option Value → Prop} {i : Nat} {x : Int} (hd : decode Y.2.1 pc = .ok (.lload i, 2)) (hl : ls[i]? = some (some (lgv x))) (kk : R2 Y d σ (pc + 2) ls (lgv x :: st) Q)  : R2 Y d σ pc ls (st) Q := ab_lload hd hl kk
theorem r_lload_n {Y : ab_Y} {d : Nat} {σ : ab_S} {pc : Nat} {ls : List (Option Value)} {st : List Value} {Q : ab_S → Option Value → Prop} {q : Fin 4} {x : Int} (hd : decode Y.2.1 pc = .ok (.lload_n q, 1)) (hl : ls[(q : Nat)]? = some (some (lgv x))) (kk : R2 Y d σ (pc + 1) ls (lgv x :: st) Q)  : R2 Y d σ pc ls (st) Q := ab_lload_n hd hl kk
theorem r_aload {Y : ab_Y} {d : Nat} {σ : ab_S} {pc : Nat} {ls : List (Option Value)} {st : List Value} {Q : ab_S → Option Value → Prop} {i : Nat} {x : Int} (hd : decode Y.2.1 pc = .ok (.aload i, 2)) (hl : ls[i]? = some (some (rf x))) (kk : R2 Y d σ (pc + 2) ls (rf x :: st) Q)  : R2 Y d σ pc ls (st) Q := ab_aload hd hl kk
theorem r_aload_n {Y : ab_Y} {d : Nat} {σ : ab_S} {pc : Nat} {ls : List (Option Value)} {st : List Value} {Q : ab_S → Option Value → Prop} {q : Fin 4} {x : Int} (hd : decode Y.2.1 pc = .ok (.aload_n q, 1)) (hl : ls[(q : Nat)]? = some (some (rf x))) (kk : R2 Y d σ (pc + 1) ls (rf x :: st) Q)  : R2 Y d σ pc ls (st) Q := ab_aload_n hd hl kk
theorem r_istore {Y : ab_Y} {d : Nat} {σ : ab_S} {pc : Nat} {ls : List (Option Value)} {st : List Value} {Q : ab_S → Option Value → Prop} {i : Nat} {x : Int} (hd : decode Y.2.1 pc = .ok (.istore i, 2)) (kk : R2 Y d σ (pc + 2) (ls.set i (some (iv x))) st Q) (hn : i < Y.2.2.1 := by decide) (hk : ab_kill ls i = ls := by rfl) : R2 Y d σ pc ls (iv x :: st) Q := by
  refine ab_istore hd hn ?_
  unfold ab_set
  rw [hk]
  exact kk
theorem r_istore_n {Y : ab_Y} {d : Nat} {σ : ab_S} {pc : Nat} {ls : List (Option Value)} {st : List Value} {Q : ab_S → Option Value → Prop} {q : Fin 4} {x : Int} (hd : decode Y.2.1 pc = .ok (.istore_n q, 1)) (kk : R2 Y d σ (pc + 1) (ls.set (q : Nat) (some (iv x))) st Q) (hn : (q : Nat) < Y.2.2.1 := by decide) (hk : ab_kill ls (q : Nat) = ls := by rfl) : R2 Y d σ pc ls (iv x :: st) Q := by
  refine ab_istore_n hd hn ?_
  unfold ab_set
  rw [hk]
  exact kk
theorem r_astore {Y : ab_Y} {d : Nat} {σ : ab_S} {pc : Nat} {ls : List (Option Value)} {st : List Value} {Q : ab_S → Option Value → Prop} {i : Nat} {x : Int} (hd : decode Y.2.1 pc = .ok (.astore i, 2)) (kk : R2 Y d σ (pc + 2) (ls.set i (some (rf x))) st Q) (hn : i < Y.2.2.1 := by decide) (hk : ab_kill ls i = ls := by rfl) : R2 Y d σ pc ls (rf x :: st) Q := by
  refine ab_astore hd hn ?_
  unfold ab_set
  rw [hk]
  exact kk
theorem r_astore_n {Y : ab_Y} {d : Nat} {σ : ab_S} {pc : Nat} {ls : List (Option Value)} {st : List Value} {Q : ab_S → Option Value → Prop} {q : Fin 4} {x : Int} (hd : decode Y.2.1 pc = .ok (.astore_n q, 1)) (kk : R2 Y d σ (pc + 1) (ls.set (q : Nat) (some (rf x))) st Q) (hn : (q : Nat) < Y.2.2.1 := by decide) (hk : ab_kill ls (q : Nat) = ls := by rfl) : R2 Y d σ pc ls (rf x :: st) Q := by
  refine ab_astore_n hd hn ?_
  unfold ab_set
  rw [hk]
  exact kk
theorem r_lstore {Y : ab_Y} {d : Nat} {σ : ab_S} {pc : Nat} {ls : List (Option Value)} {st : List Value} {Q : ab_S → Option Value → Prop} {i : Nat} {x : Int} (hd : decode Y.2.1 pc = .ok (.lstore i, 2)) (kk : R2 Y d σ (pc + 2) ((ls.set i (some (lgv x))).set (i + 1) none) st Q) (hn : i + 1 < Y.2.2.1 := by decide) (hk : ab_kill ls i = ls := by rfl) : R2 Y d σ pc ls (lgv x :: st) Q := by
  refine ab_lstore hd hn ?_
  unfold ab_set2
  rw [hk]
  exact kk
theorem r_lstore_n {Y : ab_Y} {d : Nat} {σ : ab_S} {pc : Nat} {ls : List (Option Value)} {st : List Value} {Q : ab_S → Option Value → Prop} {q : Fin 4} {x : Int} (hd : decode Y.2.1 pc = .ok (.lstore_n q, 1)) (kk : R2 Y d σ (pc + 1) ((ls.set (q : Nat) (some (lgv x))).set ((q : Nat) + 1) none) st Q) (hn : (q : Nat) + 1 < Y.2.2.1 := by decide) (hk : ab_kill ls (q : Nat) = ls := by rfl) : R2 Y d σ pc ls (lgv x :: st) Q := by
  refine ab_lstore_n hd hn ?_
  unfold ab_set2
  rw [hk]
  exact kk
theorem r_iinc {Y : ab_Y} {d : Nat} {σ : ab_S} {pc : Nat} {ls : List (Option Value)} {st : List Value} {Q : ab_S → Option Value → Prop} {i : Nat} {z x : Int} (hd : decode Y.2.1 pc = .ok (.iinc i z, 3)) (hl : ls[i]? = some (some (iv x))) (kk : R2 Y d σ (pc + 3) (ls.set i (some (iv (x + z)))) st Q) (hn : i < Y.2.2.1 := by decide) (hk : ab_kill ls i = ls := by rfl) : R2 Y d σ pc ls st Q := by
  refine ab_iinc hd hl hn ?_
  unfold ab_set
  rw [hk, ← Int32.ofInt_add]
  exact kk
theorem r_icmp_eq {Y : ab_Y} {d : Nat} {σ : ab_S} {pc : Nat} {ls : List (Option Value)} {st : List Value} {Q : ab_S → Option Value → Prop} {x y : Int} {off : Int} {tgt : Nat} (hd : decode Y.2.1 pc = .ok (.if_icmp .eq off, 3)) (ht : (pc : Int) + off = (tgt : Int)) (kt : x = y → R2 Y d σ tgt ls st Q) (kf : ¬ x = y → R2 Y d σ (pc + 3) ls st Q) (h1 : -2147483648 ≤ x := by omega) (h2 : x ≤ 2147483647 := by omega) (h3 : -2147483648 ≤ y := by omega) (h4 : y ≤ 2147483647 := by omega) : R2 Y d σ pc ls (iv y :: iv x :: st) Q := ab_icmp_eq hd ht (fun h => kt ((iv_inj_eq (h1) (h2) (h3) (h4)).mp h)) (fun h => kf (fun h9 => h ((iv_inj_eq (h1) (h2) (h3) (h4)).mpr h9)))
theorem r_if_eq {Y : ab_Y} {d : Nat} {σ : ab_S} {pc : Nat} {ls : List (Option Value)} {st : List Value} {Q : ab_S → Option Value → Prop} {x : Int} {off : Int} {tgt : Nat} (hd : decode Y.2.1 pc = .ok (.ifCond .eq off, 3)) (ht : (pc : Int) + off = (tgt : Int)) (kt : x = 0 → R2 Y d σ tgt ls st Q) (kf : ¬ x = 0 → R2 Y d σ (pc + 3) ls st Q) (h1 : -2147483648 ≤ x := by omega) (h2 : x ≤ 2147483647 := by omega) : R2 Y d σ pc ls (iv x :: st) Q := ab_if_eq hd ht (fun h => kt ((iv_inj_eq (y := 0) (h1) (h2) (by omega) (by omega)).mp h)) (fun h => kf (fun h9 => h ((iv_inj_eq (y := 0) (h1) (h2) (by omega) (by omega)).mpr h9)))
theorem r_icmp_ne {Y : ab_Y} {d : Nat} {σ : ab_S} {pc : Nat} {ls : List (Option Value)} {st : List Value} {Q : ab_S → Option Value → Prop} {x y : Int} {off : Int} {tgt : Nat} (hd : decode Y.2.1 pc = .ok (.if_icmp .ne off, 3)) (ht : (pc : Int) + off = (tgt : Int)) (kt : ¬ x = y → R2 Y d σ tgt ls st Q) (kf : x = y → R2 Y d σ (pc + 3) ls st Q) (h1 : -2147483648 ≤ x := by omega) (h2 : x ≤ 2147483647 := by omega) (h3 : -2147483648 ≤ y := by omega) (h4 : y ≤ 2147483647 := by omega) : R2 Y d σ pc ls (iv y :: iv x :: st) Q := ab_icmp_ne hd ht (fun h => kt (fun h9 => h ((iv_inj_eq (h1) (h2) (h3) (h4)).mpr h9))) (fun h => kf ((iv_inj_eq (h1) (h2) (h3) (h4)).mp h))
theorem r_if_ne {Y : ab_Y} {d : Nat} {σ : ab_S} {pc : Nat} {ls : List (Option Value)} {st : List Value} {Q : ab_S → Option Value → Prop} {x : Int} {off : Int} {tgt : Nat} (hd : decode Y.2.1 pc = .ok (.ifCond .ne off, 3)) (ht : (pc : Int) + off = (tgt : Int)) (kt : ¬ x = 0 → R2 Y d σ tgt ls st Q) (kf : x = 0 → R2 Y d σ (pc + 3) ls st Q) (h1 : -2147483648 ≤ x := by omega) (h2 : x ≤ 2147483647 := by omega) : R2 Y d σ pc ls (iv x :: st) Q := ab_if_ne hd ht (fun h => kt (fun h9 => h ((iv_inj_eq (y := 0) (h1) (h2) (by omega) (by omega)).mpr h9))) (fun h => kf ((iv_inj_eq (y := 0) (h1) (h2) (by omega) (by omega)).mp h))
theorem r_icmp_lt {Y : ab_Y} {d : Nat} {σ : ab_S} {pc : Nat} {ls : List (Option Value)} {st : List Value} {Q : ab_S → Option Value → Prop} {x y : Int} {off : Int} {tgt : Nat} (hd : decode Y.2.1 pc = .ok (.if_icmp .lt off, 3)) (ht : (pc : Int) + off = (tgt : Int)) (kt : x < y → R2 Y d σ tgt ls st Q) (kf : ¬ x < y → R2 Y d σ (pc + 3) ls st Q) (h1 : -2147483648 ≤ x := by omega) (h2 : x ≤ 2147483647 := by omega) (h3 : -2147483648 ≤ y := by omega) (h4 : y ≤ 2147483647 := by omega) : R2 Y d σ pc ls (iv y :: iv x :: st) Q := ab_icmp_lt hd ht (fun h => kt ((iv_inj_lt (h1) (h2) (h3) (h4)).mp h)) (fun h => kf (fun h9 => h ((iv_inj_lt (h1) (h2) (h3) (h4)).mpr h9)))
theorem r_if_lt {Y : ab_Y} {d : Nat} {σ : ab_S} {pc : Nat} {ls : List (Option Value)} {st : List Value} {Q : ab_S → Option Value → Prop} {x : Int} {off : Int} {tgt : Nat} (hd : decode Y.2.1 pc = .ok (.ifCond .lt off, 3)) (ht : (pc : Int) + off = (tgt : Int)) (kt : x < 0 → R2 Y d σ tgt ls st Q) (kf : ¬ x < 0 → R2 Y d σ (pc + 3) ls st Q) (h1 : -2147483648 ≤ x := by omega) (h2 : x ≤ 2147483647 := by omega) : R2 Y d σ pc ls (iv x :: st) Q := ab_if_lt hd ht (fun h => kt ((iv_inj_lt (y := 0) (h1) (h2) (by omega) (by omega)).mp h)) (fun h => kf (fun h9 => h ((iv_inj_lt (y := 0) (h1) (h2) (by omega) (by omega)).mpr h9)))
theorem r_icmp_ge {Y : ab_Y} {d : Nat} {σ : ab_S} {pc : Nat} {ls : List (Option Value)} {st : List Value} {Q : ab_S → Option Value → Prop} {x y : Int} {off : Int} {tgt : Nat} (hd : decode Y.2.1 pc = .ok (.if_icmp .ge off, 3)) (ht : (pc : Int) + off = (tgt : Int)) (kt : y ≤ x → R2 Y d σ tgt ls st Q) (kf : ¬ y ≤ x → R2 Y d σ (pc + 3) ls st Q) (h1 : -2147483648 ≤ x := by omega) (h2 : x ≤ 2147483647 := by omega) (h3 : -2147483648 ≤ y := by omega) (h4 : y ≤ 2147483647 := by omega) : R2 Y d σ pc ls (iv y :: iv x :: st) Q := ab_icmp_ge hd ht (fun h => kt ((iv_inj_le (h3) (h4) (h1) (h2)).mp h)) (fun h => kf (fun h9 => h ((iv_inj_le (h3) (h4) (h1) (h2)).mpr h9)))
theorem r_if_ge {Y : ab_Y} {d : Nat} {σ : ab_S} {pc : Nat} {ls : List (Option Value)} {st : List Value} {Q : ab_S → Option Value → Prop} {x : Int} {off : Int} {tgt : Nat} (hd : decode Y.2.1 pc = .ok (.ifCond .ge off, 3)) (ht : (pc : Int) + off = (tgt : Int)) (kt : 0 ≤ x → R2 Y d σ tgt ls st Q) (kf : ¬ 0 ≤ x → R2 Y d σ (pc + 3) ls st Q) (h1 : -2147483648 ≤ x := by omega) (h2 : x ≤ 2147483647 := by omega) : R2 Y d σ pc ls (iv x :: st) Q := ab_if_ge hd ht (fun h => kt ((iv_inj_le (x := 0) (by omega) (by omega) (h1) (h2)).mp h)) (fun h => kf (fun h9 => h ((iv_inj_le (x := 0) (by omega) (by omega) (h1) (h2)).mpr h9)))
theorem r_icmp_gt {Y : ab_Y} {d : Nat} {σ : ab_S} {pc : Nat} {ls : List (Option Value)} {st : List Value} {Q : ab_S → Option Value → Prop} {x y : Int} {off : Int} {tgt : Nat} (hd : decode Y.2.1 pc = .ok (.if_icmp .gt off, 3)) (ht : (pc : Int) + off = (tgt : Int)) (kt : y < x → R2 Y d σ tgt ls st Q) (kf : ¬ y < x → R2 Y d σ (pc + 3) ls st Q) (h1 : -2147483648 ≤ x := by omega) (h2 : x ≤ 2147483647 := by omega) (h3 : -2147483648 ≤ y := by omega) (h4 : y ≤ 2147483647 := by omega) : R2 Y d σ pc ls (iv y :: iv x :: st) Q := ab_icmp_gt hd ht (fun h => kt ((iv_inj_lt (h3) (h4) (h1) (h2)).mp h)) (fun h => kf (fun h9 => h ((iv_inj_lt (h3) (h4) (h1) (h2)).mpr h9)))
theorem r_if_gt {Y : ab_Y} {d : Nat} {σ : ab_S} {pc : Nat} {ls : List (Option Value)} {st : List Value} {Q : ab_S → Option Value → Prop} {x : Int} {off : Int} {tgt : Nat} (hd : decode Y.2.1 pc = .ok (.ifCond .gt off, 3)) (ht : (pc : Int) + off = (tgt : Int)) (kt : 0 < x → R2 Y d σ tgt ls st Q) (kf : ¬ 0 < x → R2 Y d σ (pc + 3) ls st Q) (h1 : -2147483648 ≤ x := by omega) (h2 : x ≤ 2147483647 := by omega) : R2 Y d σ pc ls (iv x :: st) Q := ab_if_gt hd ht (fun h => kt ((iv_inj_lt (x := 0) (by omega) (by omega) (h1) (h2)).mp h)) (fun h => kf (fun h9 => h ((iv_inj_lt (x := 0) (by omega) (by omega) (h1) (h2)).mpr h9)))
theorem r_icmp_le {Y : ab_Y} {d : Nat} {σ : ab_S} {pc : Nat} {ls : List (Option Value)} {st : List Value} {Q : ab_S → Option Value → Prop} {x y : Int} {off : Int} {tgt : Nat} (hd : decode Y.2.1 pc = .ok (.if_icmp .le off, 3)) (ht : (pc : Int) + off = (tgt : Int)) (kt : x ≤ y → R2 Y d σ tgt ls st Q) (kf : ¬ x ≤ y → R2 Y d σ (pc + 3) ls st Q) (h1 : -2147483648 ≤ x := by omega) (h2 : x ≤ 2147483647 := by omega) (h3 : -2147483648 ≤ y := by omega) (h4 : y ≤ 2147483647 := by omega) : R2 Y d σ pc ls (iv y :: iv x :: st) Q := ab_icmp_le hd ht (fun h => kt ((iv_inj_le (h1) (h2) (h3) (h4)).mp h)) (fun h => kf (fun h9 => h ((iv_inj_le (h1) (h2) (h3) (h4)).mpr h9)))
theorem r_if_le {Y : ab_Y} {d : Nat} {σ : ab_S} {pc : Nat} {ls : List (Option Value)} {st : List Value} {Q : ab_S → Option Value → Prop} {x : Int} {off : Int} {tgt : Nat} (hd : decode Y.2.1 pc = .ok (.ifCond .le off, 3)) (ht : (pc : Int) + off = (tgt : Int)) (kt : x ≤ 0 → R2 Y d σ tgt ls st Q) (kf : ¬ x ≤ 0 → R2 Y d σ (pc + 3) ls st Q) (h1 : -2147483648 ≤ x := by omega) (h2 : x ≤ 2147483647 := by omega) : R2 Y d σ pc ls (iv x :: st) Q := ab_if_le hd ht (fun h => kt ((iv_inj_le (y := 0) (h1) (h2) (by omega) (by omega)).mp h)) (fun h => kf (fun h9 => h ((iv_inj_le (y := 0) (h1) (h2) (by omega) (by omega)).mpr h9)))
theorem r_goto {Y : ab_Y} {d : Nat} {σ : ab_S} {pc : Nat} {ls : List (Option Value)} {st : List Value} {Q : ab_S → Option Value → Prop} {off : Int} {tgt : Nat} (hd : decode Y.2.1 pc = .ok (.goto off, 3)) (ht : (pc : Int) + off = (tgt : Int)) (kk : R2 Y d σ tgt ls st Q) : R2 Y d σ pc ls st Q := ab_goto hd ht kk
theorem r_same {Y : ab_Y} {d : Nat} {σ : ab_S} {pc : Nat} {ls : List (Option Value)} {st : List Value} {Q : ab_S → Option Value → Prop} {x y : Int} {off : Int} {tgt : Nat} (hd : decode Y.2.1 pc = .ok (.if_icmp .eq off, 3)) (ht : (pc : Int) + off = (tgt : Int)) (h : x = y) (kt : R2 Y d σ tgt ls st Q) : R2 Y d σ pc ls (iv y :: iv x :: st) Q := ab_icmp_eq hd ht (fun _ => kt) (fun h9 => absurd (by rw [h]) h9)
theorem r_lookup {Y : ab_Y} {d : Nat} {σ : ab_S} {pc : Nat} {ls : List (Option Value)} {st : List Value} {Q : ab_S → Option Value → Prop} {dflt : Int} {ps : Array (Int × Int)} {len : Nat} {x off : Int} {tgt : Nat} (hd : decode Y.2.1 pc = .ok (.lookupswitch dflt ps, len)) (hp : (ps.toList.zip (ps.toList.drop 1)).all (fun (a, next) => a.1 < next.1) = true) (ho : Op.lookupswitch.offset ps.toList dflt x = off) (ht : (pc : Int) + off = (tgt : Int)) (kk : R2 Y d σ tgt ls st Q) (h1 : -2147483648 ≤ x := by omega) (h2 : x ≤ 2147483647 := by omega) : R2 Y d σ pc ls (iv x :: st) Q := ab_lookup hd hp (by rw [iv_toInt h1 h2]; exact ho) ht kk
theorem r_tableOut {Y : ab_Y} {d : Nat} {σ : ab_S} {pc : Nat} {ls : List (Option Value)} {st : List Value} {Q : ab_S → Option Value → Prop} {dflt lo hi : Int} {offs : Array Int} {len : Nat} {x : Int} {tgt : Nat} (hd : decode Y.2.1 pc = .ok (.tableswitch dflt lo hi offs, len)) (h : x < lo ∨ hi < x) (ht : (pc : Int) + dflt = (tgt : Int)) (kk : R2 Y d σ tgt ls st Q) (h1 : -2147483648 ≤ x := by omega) (h2 : x ≤ 2147483647 := by omega) : R2 Y d σ pc ls (iv x :: st) Q := ab_tableOut hd (by rw [iv_toInt h1 h2]; exact h) ht kk
theorem r_tableIn {Y : ab_Y} {d : Nat} {σ : ab_S} {pc : Nat} {ls : List (Option Value)} {st : List Value} {Q : ab_S → Option Value → Prop} {dflt lo hi : Int} {offs : Array Int} {len : Nat} {x off : Int} {tgt : Nat} (hd : decode Y.2.1 pc = .ok (.tableswitch dflt lo hi offs, len)) (ha : ¬ x < lo) (hb : ¬ hi < x) (ho : offs[(x - lo).toNat]? = some off) (ht : (pc : Int) + off = (tgt : Int)) (kk : R2 Y d σ tgt ls st Q) (h1 : -2147483648 ≤ x := by omega) (h2 : x ≤ 2147483647 := by omega) : R2 Y d σ pc ls (iv x :: st) Q := ab_tableIn hd (by rw [iv_toInt h1 h2]; exact ha) (by rw [iv_toInt h1 h2]; exact hb) (by rw [iv_toInt h1 h2]; exact ho) ht kk
theorem r_ldc {Y : ab_Y} {d : Nat} {σ : ab_S} {pc : Nat} {ls : List (Option Value)} {st : List Value} {Q : ab_S → Option Value → Prop} {i : Nat} {v : Int32} {z : Int} (hw : Cond.constant Y.1.cls i v ∈ ab_gw) (hd : decode Y.2.1 pc = .ok (.ldc i, 2)) (hv : v = Int32.ofInt z) (kk : R2 Y d σ (pc + 2) ls (iv z :: st) Q) : R2 Y d σ pc ls st Q := ab_ldc hw hd (by rw [hv]; exact kk)
theorem r_ldcw {Y : ab_Y} {d : Nat} {σ : ab_S} {pc : Nat} {ls : List (Option Value)} {st : List Value} {Q : ab_S → Option Value → Prop} {i : Nat} {v : Int32} {z : Int} (hw : Cond.constant Y.1.cls i v ∈ ab_gw) (hd : decode Y.2.1 pc = .ok (.ldc_w i, 3)) (hv : v = Int32.ofInt z) (kk : R2 Y d σ (pc + 3) ls (iv z :: st) Q) : R2 Y d σ pc ls st Q := ab_ldcw hw hd (by rw [hv]; exact kk)
theorem r_ldc2 {Y : ab_Y} {d : Nat} {σ : ab_S} {pc : Nat} {ls : List (Option Value)} {st : List Value} {Q : ab_S → Option Value → Prop} {i : Nat} {v : Int64} {z : Int} (hw : Cond.constantLong Y.1.cls i v ∈ ab_gw) (hd : decode Y.2.1 pc = .ok (.ldc2_w i, 3)) (hv : v = Int64.ofInt z) (kk : R2 Y d σ (pc + 3) ls (lgv z :: st) Q) : R2 Y d σ pc ls st Q := ab_ldc2 hw hd (by rw [hv]; exact kk)
theorem r_ireturn {Y : ab_Y} {d : Nat} {σ : ab_S} {pc : Nat} {ls : List (Option Value)} {Q : ab_S → Int → Prop} {x : Int} (hd : decode Y.2.1 pc = .ok (.ireturn, 1)) (hq : Q σ x) (hy : Y.2.2.2 = some .int := by rfl) : R2 Y d σ pc ls [iv x] (PI Q) := ab_ireturn (st := []) hd hy rfl ⟨σ, rfl, x, rfl, hq⟩
theorem r_zreturn {Y : ab_Y} {d : Nat} {σ : ab_S} {pc : Nat} {ls : List (Option Value)} {Q : ab_S → Int → Prop} {x : Int} (hd : decode Y.2.1 pc = .ok (.ireturn, 1)) (hx : x = 0 ∨ x = 1) (hq : Q σ x) (hy : Y.2.2.2 = some .boolean := by rfl) : R2 Y d σ pc ls [iv x] (PI Q) := ab_ireturn (st := []) hd hy (by rcases hx with rfl | rfl <;> decide) ⟨σ, rfl, x, rfl, hq⟩
theorem r_lreturn {Y : ab_Y} {d : Nat} {σ : ab_S} {pc : Nat} {ls : List (Option Value)} {Q : ab_S → Int → Prop} {x : Int} (hd : decode Y.2.1 pc = .ok (.lreturn, 1)) (hq : Q σ x) (hy : Y.2.2.2 = some .long := by rfl) : R2 Y d σ pc ls [lgv x] (PL Q) := ab_lreturn (st := []) hd hy ⟨σ, rfl, x, rfl, hq⟩
theorem r_return {Y : ab_Y} {d : Nat} {σ : ab_S} {pc : Nat} {ls : List (Option Value)} {Q : ab_S → Prop} (hd : decode Y.2.1 pc = .ok (.return_, 1)) (hq : Q σ) (hy : Y.2.2.2 = none := by rfl) : R2 Y d σ pc ls [] (PV Q) := ab_return (st := []) hd hy ⟨σ, rfl, rfl, hq⟩
