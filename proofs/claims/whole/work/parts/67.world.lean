/-! the world at the law's start -/
theorem ov_5 : Cond.arrayOver (.object RX5) ∈ lw_tbl := List.mem_of_getElem? (i := 93) (by decide +kernel)
theorem ov_6 : Cond.arrayOver (.object RX6) ∈ lw_tbl := List.mem_of_getElem? (i := 191) (by decide +kernel)
theorem ov_0 : Cond.arrayOver (.object RX0) ∈ lw_tbl := List.mem_of_getElem? (i := 223) (by decide +kernel)
theorem ov_A : Cond.arrayOver (.array .int) ∈ lw_tbl := List.mem_of_getElem? (i := 226) (by decide +kernel)
theorem wi_all (ci : Nat) (q : vw_C) (h : vwCl[ci]? = some q) : Cond.instantiable q.1 q.2.2 ∈ ab_gw := by
  match ci, h with
  | 0, h => cases h; exact wi_X0
  | 1, h => cases h; exact wi_X1
  | 2, h => cases h; exact wi_X2
  | 3, h => cases h; exact wi_X3
  | 4, h => cases h; exact wi_X4
  | 5, h => cases h; exact wi_X5
  | 6, h => cases h; exact wi_X6
  | 7, h => cases h; exact wi_X7
  | 8, h => cases h; exact wi_X8
  | 9, h => cases h; exact wi_X9
  | n + 10, h => simp [vwCl] at h
theorem kn_all {s : State} {args : Array Value} (hgw : ∀ w ∈ ab_gw, w.before args s = true) (ci : Nat) : ∃ (cC : ClassId) (iS : Nat → Nat), ∀ q, vwCl[ci]? = some q → u_Kn s q.1 q.2.1 q.2.2 cC iS := by
  cases hq : vwCl[ci]? with
  | none => exact ⟨0, fun _ => 0, fun q h => by cases h⟩
  | some q =>
    obtain ⟨cC, iS, h⟩ := u_known (C := q.1) (T := q.2.1) (N := q.2.2) (n := q.2.2) hgw (ab_cl ci q hq).1 (hgw _ (wi_all ci q hq))
    exact ⟨cC, iS, fun q2 h2 => by cases h2; exact h⟩
def arr_ok (s : State) (c : ClassId) (ty : FieldType) : Prop := ArrOfT s c ty ∧ va_RA s c ty
theorem arr_prim {s : State} {args : Array Value} {ty : FieldType} (hp : ty = .int ∨ ty = .boolean) (h : (Cond.arrayClass ty).before args s = true) : ∃ c, arr_ok s c ty := by
  obtain ⟨c, k, comp, h1, h2, h3⟩ := Cond.arrayClass_spec h
  rcases hp with e | e
  · subst e
    exact ⟨c, fun n z => ⟨(fun k h => by cases h), k, h2, comp, h3⟩, h1⟩
  · subst e
    exact ⟨c, fun n z => ⟨(fun k h => by cases h), k, h2, comp, h3⟩, h1⟩
theorem arr_obj {s : State} {args : Array Value} {C : String} (h : (Cond.arrayOver (.object C)).before args s = true) : ∃ c, arr_ok s c (.object C) := by
  obtain ⟨comp, c, k, h1, h2, h3, h4, h5⟩ := Cond.arrayOver_spec h
  exact ⟨c, fun n z => ⟨(fun k h => by cases h), k, h3, comp, h4⟩, k, comp, h3, h4, h1, h5⟩
theorem arr_arr {s : State} {args : Array Value} (h : (Cond.arrayOver (.array .int)).before args s = true) : ∃ c, arr_ok s c (.array .int) := by
  obtain ⟨comp, c, k, h1, h2, h3, h4, h5⟩ := arrayOverA_spec h
  exact ⟨c, fun n z => ⟨(fun k h => by cases h), k, h3, comp, h4⟩, h5⟩
theorem world_0 {s : State} {args : Array Value} (hts : ∀ w ∈ lw_tbl, w.before args s = true) : ∃ (D : va_G) (dA : Nat → ClassId), ab_K D dA s := by
  have hgw : ∀ w ∈ ab_gw, w.before args s = true := fun w hw => hts w (List.mem_filter.mp hw).1
  obtain ⟨c0, h0⟩ := arr_prim (s := s) (Or.inl rfl) (hgw _ w_arr_int)
  obtain ⟨c1, h1⟩ := arr_prim (s := s) (Or.inr rfl) (hgw _ w_arr_boolean)
  obtain ⟨c2, h2⟩ := arr_obj (hts _ ov_5)
  obtain ⟨c3, h3⟩ := arr_obj (hts _ ov_6)
  obtain ⟨c4, h4⟩ := arr_obj (hts _ ov_0)
  obtain ⟨c5, h5⟩ := arr_arr (hts _ ov_A)
  refine ⟨(fun ci => (kn_all hgw ci).choose, fun ci => (kn_all hgw ci).choose_spec.choose), fun j => if j = 0 then c0 else if j = 1 then c1 else if j = 2 then c2 else if j = 3 then c3 else if j = 4 then c4 else c5, ⟨fun ci q h => (kn_all hgw ci).choose_spec.choose_spec q h, fun k q h => ?_⟩, ?_, va_AO.of (hts _ ov_5), va_AO.of (hts _ ov_6), va_AO.of (hts _ ov_0), hts _ ov_A⟩
  · match k, h with
    | 0, h => cases h; exact h0
    | 1, h => cases h; exact h1
    | 2, h => cases h; exact h2
    | 3, h => cases h; exact h3
    | 4, h => cases h; exact h4
    | 5, h => cases h; exact h5
    | n + 6, h => simp [ab_tys] at h
  · exact ab_nest_cases (va_Nw.of rfl (hts _ mnw_X2_23)) (va_Nw.of rfl (hts _ mnw_X0_89)) (va_Nw.of rfl (hts _ mnw_X4_93))
theorem heap_0 {D : va_G} {dA : Nat → ClassId} {s : State} {b L : Nat} {xs : Nat → Int32} (hX : va_X b L xs s s.heap) (hbl : b < s.heap.size) : ab_H D dA (s.heap.size - 1) b [ab_scr (s0 L xs)] s s.heap := by
  refine ⟨by show s.heap.size = s.heap.size - 1 + 1; omega, by omega, ⟨_, by rw [scr_s0]; rfl⟩, fun k c hc => ?_⟩
  have hk : k < 1 := (List.getElem?_eq_some_iff.mp hc).1
  have hk0 : k = 0 := by omega
  subst hk0
  have e : ab_scr (s0 L xs) = c := Option.some.inj hc
  rw [scr_s0] at e
  subst e
  refine ⟨fun _ => ?_, fun h => absurd h (show ¬ 16 < 10 by decide), fun h h2 => absurd h2 (show ¬ 16 < 16 by decide)⟩
  obtain ⟨scr, a1, a2, a3, a4, a5⟩ := hX
  refine ⟨scr, a1, a2, a3, ?_, fun j hj => ?_⟩
  · show scr.slots.size = ((List.range L).map (fun i : Nat => Value.int (xs i))).length
    rw [List.length_map, List.length_range]
    exact a4
  · have hj2 : j < ((List.range L).map (fun i : Nat => Value.int (xs i))).length := hj
    rw [List.length_map, List.length_range] at hj2
    rw [a5 j hj2]
    show some (Value.int (xs j)) = some (((List.range L).map (fun i : Nat => Value.int (xs i))).getD j .null)
    rw [List.getD_eq_getElem?_getD, List.getElem?_map, List.getElem?_range hj2]
    rfl
