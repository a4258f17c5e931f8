/-! the memory behind the constructors is flat -/
def kin (k : Int) : List Int → Bool
  | [] => false
  | x :: r => decide (k = x) || kin k r
def c0 (k i : Int) : Int := if kin k [6, 37, 67, 97, 129, 152, 175, 198, 221, 261] = true then 10 else if kin k [7, 38, 68, 98, 130, 153, 176, 199, 222, 262] = true then 5 else if kin k [5, 36, 66, 96, 128, 151, 174, 197, 220] = true then (if i = 6 then 1 else 0) else if k = 260 then (if i = 8 then 1 else 0) else 0
def s0 (L : Nat) (xs : Nat → Int32) : ab_S := fun k i => if k = -1 then (L : Int) else if k = 0 then (xs i.toNat).toInt else c0 k i
def eqV (v w : Value) : Bool := match v, w with
  | .ref a, .ref b => decide (a = b)
  | .int a, .int b => decide (a = b)
  | .null, .null => true
  | _, _ => false
theorem eqV_ok {v w : Value} (h : eqV v w = true) : v = w := by
  cases v <;> cases w <;> first | (simp only [eqV, decide_eq_true_eq] at h; rw [h]) | rfl | (simp [eqV] at h)
def eqVs : List Value → List Value → Bool
  | [], [] => true
  | v :: r, w :: q => eqV v w && eqVs r q
  | _, _ => false
theorem eqVs_ok : ∀ {r q : List Value}, eqVs r q = true → r = q
  | [], [], _ => rfl
  | v :: r, w :: q, h => by
    have h' : (eqV v w && eqVs r q) = true := h
    rw [Bool.and_eq_true] at h'
    rw [eqV_ok h'.1, eqVs_ok h'.2]
  | [], _ :: _, h => by cases h
  | _ :: _, [], h => by cases h
def eqCs : List ab_C → List ab_C → Bool
  | [], [] => true
  | c :: r, e :: q => decide (c.1 = e.1) && eqVs c.2 e.2 && eqCs r q
  | _, _ => false
theorem eqCs_ok : ∀ {r q : List ab_C}, eqCs r q = true → r = q
  | [], [], _ => rfl
  | c :: r, e :: q, h => by
    have h' : (decide (c.1 = e.1) && eqVs c.2 e.2 && eqCs r q) = true := h
    rw [Bool.and_eq_true, Bool.and_eq_true, decide_eq_true_eq] at h'
    have e1 : c = e := Prod.ext h'.1.1 (eqVs_ok h'.1.2)
    rw [e1, eqCs_ok h'.2]
  | [], _ :: _, h => by cases h
  | _ :: _, [], h => by cases h
set_option maxRecDepth 100000 in
theorem mem_c0 : eqCs (cHB 1 ++ cModel 260) (ab_shp.mapIdx (fun j q => ab_cel c0 (j + 1) q)) = true := by decide +kernel
theorem cel_s0 (L : Nat) (xs : Nat → Int32) (j : Nat) (q : Nat × Nat) : ab_cel (s0 L xs) (j + 1) q = ab_cel c0 (j + 1) q := by
  unfold ab_cel
  refine congrArg (Prod.mk q.1) ?_
  apply List.map_congr_left
  intro z hz
  unfold ab_sv
  cases ab_tg q.1 z with
  | some δ => rfl
  | none =>
    show iv (s0 L xs ((j + 1 : Nat) : Int) z) = iv (c0 ((j + 1 : Nat) : Int) z)
    unfold s0
    rw [if_neg (by omega), if_neg (by omega)]
theorem mem_s0 (L : Nat) (xs : Nat → Int32) : [ab_scr (s0 L xs)] ++ (cHB 1 ++ cModel 260) = ab_mk (s0 L xs) := by
  rw [eqCs_ok mem_c0, List.cons_append, List.nil_append]
  unfold ab_mk
  refine congrArg (List.cons _) ?_
  apply List.ext_getElem?
  intro j
  rw [List.getElem?_mapIdx, List.getElem?_mapIdx]
  cases ab_shp[j]? with
  | none => rfl
  | some q =>
    show some (ab_cel c0 (j + 1) q) = some (ab_cel (s0 L xs) (j + 1) q)
    rw [cel_s0]
theorem scr_s0 (L : Nat) (xs : Nat → Int32) : ab_scr (s0 L xs) = (16, (List.range L).map (fun i : Nat => Value.int (xs i))) := by
  unfold ab_scr
  have e : s0 L xs (-1) 0 = (L : Int) := if_pos rfl
  rw [e, Int.toNat_natCast]
  refine congrArg (Prod.mk 16) ?_
  apply List.map_congr_left
  intro i hi
  have e2 : s0 L xs 0 (i : Int) = (xs ((i : Int)).toNat).toInt := by
    unfold s0
    rw [if_neg (by omega), if_pos rfl]
  show iv (s0 L xs 0 (i : Int)) = _
  rw [e2, Int.toNat_natCast]
  show Value.int (Int32.ofInt (xs i).toInt) = _
  rw [Int32.ofInt_toInt]
theorem kd_1 : kd_ 1 8 8 := ⟨by decide, by decide +kernel⟩
theorem kd_260 : kd_ 260 9 37 := ⟨by decide, by decide +kernel⟩
def A0 : AB := (fun _ => 10, fun _ => 5, fun _ => 0, fun _ => 0, fun _ => [], 1, 0)
def G0 : GS := ((A0, [], []), [], fun _ => none)
theorem s0_c (L : Nat) (xs : Nat → Int32) {k : Int} (h : 0 < k) (i : Int) : s0 L xs k i = c0 k i := by
  unfold s0
  rw [if_neg (by omega), if_neg (by omega)]
theorem OKG_0 : OKG G0 := by
  refine ⟨⟨⟨⟨fun m _ _ => ?_, fun m _ _ => ?_, fun m _ _ => ?_, fun r _ _ => ⟨?_, fun l hl => ?_⟩, ?_⟩, ?_, ?_⟩, fun q hq => ?_, fun q hq => ?_⟩, WD_nil, fun i H h => ?_⟩
  · show (0 : Int) ≤ 10 ∧ (10 : Int) ≤ 40; omega
  · show (0 : Int) ≤ 5 ∧ (5 : Int) ≤ 9; omega
  · show (0 : Int) ≤ 0 ∧ (0 : Int) ≤ 99; omega
  · show 0 ≤ 8; omega
  · cases hl
  · show (0 : Int) ≤ 1 ∧ (1 : Int) ≤ 9; omega
  · show 0 ≤ 6; omega
  · show 0 ≤ 6; omega
  · cases hq
  · cases hq
  · cases h
theorem HX_0 (L : Nat) (xs : Nat → Int32) : HX (s0 L xs) 1 G0 := by
  refine ⟨⟨⟨fun m _ _ => s0_c L xs (by omega) m, fun m _ _ => s0_c L xs (by omega) m, fun m _ _ => s0_c L xs (by omega) m, fun m _ _ => s0_c L xs (by omega) m, fun r h1 h2 => ?_, s0_c L xs (by omega) _, s0_c L xs (by omega) _⟩, ⟨s0_c L xs (by omega) _, fun i q hq => by cases hq⟩, ⟨s0_c L xs (by omega) _, fun i q hq => by cases hq⟩⟩, ⟨s0_c L xs (by omega) _, fun i q hq => by cases hq⟩, fun i h1 h2 => Or.inl ⟨rfl, s0_c L xs (by omega) i⟩, s0_c L xs (by omega) _, fun i _ _ => s0_c L xs (by omega) i⟩
  refine ⟨?_, fun i l hl => by cases hl⟩
  rw [s0_c L xs (by omega)]
  rcases (show r = 0 ∨ r = 1 ∨ r = 2 ∨ r = 3 by omega) with e | e | e | e <;> subst e <;> rfl
theorem HM_0 (L : Nat) (xs : Nat → Int32) : HM (s0 L xs) 260 G0 := by
  refine ⟨⟨fun m _ _ => s0_c L xs (by omega) m, fun m _ _ => s0_c L xs (by omega) m, fun m _ _ => s0_c L xs (by omega) m, fun m _ _ => s0_c L xs (by omega) m, fun r h1 h2 => ⟨s0_c L xs (by omega) r, fun i l hl => by cases hl⟩, s0_c L xs (by omega) _, s0_c L xs (by omega) _⟩, ⟨s0_c L xs (by omega) _, fun i q hq => by cases hq⟩, ⟨s0_c L xs (by omega) _, fun i q hq => by cases hq⟩, ⟨s0_c L xs (by omega) _, fun i q hq => by cases hq⟩, fun i h1 h2 => Or.inl ⟨rfl, s0_c L xs (by omega) i⟩⟩

