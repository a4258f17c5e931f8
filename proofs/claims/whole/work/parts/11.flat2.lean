theorem ab_small {k : Int} {kd n : Nat} (h : kd_ k kd n) : n < 1000 := by
  have h9 : ∀ q ∈ ab_shp, q.2 < 1000 := by decide +kernel
  exact h9 _ (List.mem_of_getElem? h.2)
theorem ab_sv_get {σ : ab_S} {k kd n i : Nat} (hi : i < n) : ((List.range n).map (fun i => ab_sv σ k kd i))[i]? = some (ab_sv σ k kd i) := by
  rw [List.getElem?_map, List.getElem?_range hi]
  rfl
theorem ab_sv_int {σ : ab_S} {k : Int} {kd i : Nat} (hk : 0 < k) (ht : ab_tg kd i = none) : ab_sv σ k.toNat kd i = iv (σ k i) := by
  unfold ab_sv
  rw [ht]
  show iv (σ (k.toNat : Int) i) = _
  rw [show ((k.toNat : Nat) : Int) = k by omega]
theorem ab_sv_ref {σ : ab_S} {k : Int} {kd i δ : Nat} (hk : 0 < k) (ht : ab_tg kd i = some δ) : ab_sv σ k.toNat kd i = rf (k + δ) := by
  unfold ab_sv
  rw [ht]
  show Value.ref (k.toNat + δ) = Value.ref (k + δ).toNat
  have e : k.toNat + δ = (k + δ).toNat := by omega
  exact congrArg Value.ref e
theorem ab_tg_arr (i : Nat) : ab_tg 10 i = none := rfl
theorem ab_tg_bool (i : Nat) : ab_tg 11 i = none := rfl
theorem r_getI {Y : ab_Y} {d : Nat} {σ : ab_S} {pc : Nat} {ls : List (Option Value)} {st : List Value} {Q : ab_S → Option Value → Prop} {ci j idx N : Nat} {a jz : Int} (hf : ab_fl Y.1.cls idx ci j) (hd : decode Y.2.1 pc = .ok (.getfield idx, 3)) (kk : R2 Y d σ (pc + 3) ls (iv (σ a jz) :: st) Q) (hk : kd_ a ci N := by assumption) (hj : j < N := by decide) (ht : ab_tg ci j = none := by rfl) (hz : (j : Int) = jz := by rfl) : R2 Y d σ pc ls (rf a :: st) Q := ab_getfield hf hd (ab_mk_get hk) (ab_sv_get hj) (by rw [ab_sv_int hk.1 ht, hz]; exact kk)
theorem r_getR {Y : ab_Y} {d : Nat} {σ : ab_S} {pc : Nat} {ls : List (Option Value)} {st : List Value} {Q : ab_S → Option Value → Prop} {ci j idx N δ : Nat} {a δz : Int} (hf : ab_fl Y.1.cls idx ci j) (hd : decode Y.2.1 pc = .ok (.getfield idx, 3)) (ht : ab_tg ci j = some δ) (hz : (δ : Int) = δz) (kk : R2 Y d σ (pc + 3) ls (rf (a + δz) :: st) Q) (hk : kd_ a ci N := by assumption) (hj : j < N := by decide) : R2 Y d σ pc ls (rf a :: st) Q := ab_getfield hf hd (ab_mk_get hk) (ab_sv_get hj) (by rw [ab_sv_ref hk.1 ht, hz]; exact kk)
theorem r_putI {Y : ab_Y} {d : Nat} {σ : ab_S} {pc : Nat} {ls : List (Option Value)} {st : List Value} {Q : ab_S → Option Value → Prop} {ci j idx N : Nat} {a jz x : Int} (hf : ab_fp Y.1.cls idx ci j false .int) (hd : decode Y.2.1 pc = .ok (.putfield idx, 3)) (kk : R2 Y d (up σ a jz x) (pc + 3) ls st Q) (hk : kd_ a ci N := by assumption) (hj : j < N := by decide) (ht : ab_tg ci j = none := by rfl) (hz : (j : Int) = jz := by rfl) : R2 Y d σ pc ls (iv x :: rf a :: st) Q := by
  refine ab_putfield hf hd (ab_mk_get hk) (by rw [List.length_map, List.length_range]; exact hj) (fun bs b => ⟨rfl, rfl⟩) ?_
  subst hz
  rw [ab_mk_up hk hj ht]
  exact kk
theorem r_putZ {Y : ab_Y} {d : Nat} {σ : ab_S} {pc : Nat} {ls : List (Option Value)} {st : List Value} {Q : ab_S → Option Value → Prop} {ci j idx N : Nat} {a jz x : Int} (hf : ab_fp Y.1.cls idx ci j false .boolean) (hd : decode Y.2.1 pc = .ok (.putfield idx, 3)) (hx : x = 0 ∨ x = 1) (kk : R2 Y d (up σ a jz x) (pc + 3) ls st Q) (hk : kd_ a ci N := by assumption) (hj : j < N := by decide) (ht : ab_tg ci j = none := by rfl) (hz : (j : Int) = jz := by rfl) : R2 Y d σ pc ls (iv x :: rf a :: st) Q := by
  refine ab_putfield hf hd (ab_mk_get hk) (by rw [List.length_map, List.length_range]; exact hj) (fun bs b => ?_) ?_
  · rcases hx with rfl | rfl
    · exact ⟨(by decide : narrow FieldType.boolean (iv 0) = iv 0), (by decide : fits FieldType.boolean (iv 0) = true)⟩
    · exact ⟨(by decide : narrow FieldType.boolean (iv 1) = iv 1), (by decide : fits FieldType.boolean (iv 1) = true)⟩
  · subst hz
    rw [ab_mk_up hk hj ht]
    exact kk
theorem r_iaload {Y : ab_Y} {d : Nat} {σ : ab_S} {pc : Nat} {ls : List (Option Value)} {st : List Value} {Q : ab_S → Option Value → Prop} {N : Nat} {a x : Int} (hd : decode Y.2.1 pc = .ok (.iaload, 1)) (kk : R2 Y d σ (pc + 1) ls (iv (σ a x) :: st) Q) (hk : kd_ a 10 N := by assumption) (h1 : 0 ≤ x := by omega) (h2 : x < (N : Int) := by omega) : R2 Y d σ pc ls (iv x :: rf a :: st) Q := by
  have hs := ab_small hk
  have hi : x.toNat < N := by omega
  refine ab_iaload hd (ab_mk_get hk) (i := x.toNat) (by rw [List.length_map, List.length_range]; exact iv_ix h1 h2 (by omega)) (ab_sv_get hi) ?_
  rw [ab_sv_int hk.1 (ab_tg_arr _), show ((x.toNat : Nat) : Int) = x by omega]
  exact kk
theorem r_baload {Y : ab_Y} {d : Nat} {σ : ab_S} {pc : Nat} {ls : List (Option Value)} {st : List Value} {Q : ab_S → Option Value → Prop} {N : Nat} {a x : Int} (hd : decode Y.2.1 pc = .ok (.baload, 1)) (kk : R2 Y d σ (pc + 1) ls (iv (σ a x) :: st) Q) (hk : kd_ a 11 N := by assumption) (h1 : 0 ≤ x := by omega) (h2 : x < (N : Int) := by omega) : R2 Y d σ pc ls (iv x :: rf a :: st) Q := by
  have hs := ab_small hk
  have hi : x.toNat < N := by omega
  refine ab_baload hd (ab_mk_get hk) (i := x.toNat) (by rw [List.length_map, List.length_range]; exact iv_ix h1 h2 (by omega)) (ab_sv_get hi) ?_
  rw [ab_sv_int hk.1 (ab_tg_bool _), show ((x.toNat : Nat) : Int) = x by omega]
  exact kk
theorem r_iastore {Y : ab_Y} {d : Nat} {σ : ab_S} {pc : Nat} {ls : List (Option Value)} {st : List Value} {Q : ab_S → Option Value → Prop} {N : Nat} {a x y : Int} (hd : decode Y.2.1 pc = .ok (.iastore, 1)) (kk : R2 Y d (up σ a x y) (pc + 1) ls st Q) (hk : kd_ a 10 N := by assumption) (h1 : 0 ≤ x := by omega) (h2 : x < (N : Int) := by omega) : R2 Y d σ pc ls (iv y :: iv x :: rf a :: st) Q := by
  have hs := ab_small hk
  have hi : x.toNat < N := by omega
  refine ab_iastore hd (ab_mk_get hk) (i := x.toNat) (by rw [List.length_map, List.length_range]; exact iv_ix h1 h2 (by omega)) ?_
  have e := ab_mk_up (σ := σ) (x := y) hk hi (ab_tg_arr _)
  rw [show ((x.toNat : Nat) : Int) = x by omega] at e
  have e2 : (ab_mk σ).set a.toNat (10, ((List.range N).map (fun i => ab_sv σ a.toNat 10 i)).set x.toNat (.int (Int32.ofInt y))) = ab_mk (up σ a x y) := e
  rw [e2]
  exact kk
theorem r_bastore {Y : ab_Y} {d : Nat} {σ : ab_S} {pc : Nat} {ls : List (Option Value)} {st : List Value} {Q : ab_S → Option Value → Prop} {N : Nat} {a x y : Int} (hd : decode Y.2.1 pc = .ok (.bastore, 1)) (hy : y = 0 ∨ y = 1) (kk : R2 Y d (up σ a x y) (pc + 1) ls st Q) (hk : kd_ a 11 N := by assumption) (h1 : 0 ≤ x := by omega) (h2 : x < (N : Int) := by omega) : R2 Y d σ pc ls (iv y :: iv x :: rf a :: st) Q := by
  have hs := ab_small hk
  have hi : x.toNat < N := by omega
  refine ab_bastore hd (ab_mk_get hk) (i := x.toNat) (by rw [List.length_map, List.length_range]; exact iv_ix h1 h2 (by omega)) (by rcases hy with rfl | rfl <;> decide) ?_
  have e := ab_mk_up (σ := σ) (x := y) hk hi (ab_tg_bool _)
  rw [show ((x.toNat : Nat) : Int) = x by omega] at e
  have e2 : (ab_mk σ).set a.toNat (11, ((List.range N).map (fun i => ab_sv σ a.toNat 11 i)).set x.toNat (.int (Int32.ofInt y))) = ab_mk (up σ a x y) := e
  rw [e2]
  exact kk
theorem r_aaload {Y : ab_Y} {d : Nat} {σ : ab_S} {pc : Nat} {ls : List (Option Value)} {st : List Value} {Q : ab_S → Option Value → Prop} {N kd δ s : Nat} {a x δz sz : Int} (hd : decode Y.2.1 pc = .ok (.aaload, 1)) (ht : ∀ i, ab_tg kd i = some (δ + s * i)) (hz : (δ : Int) = δz) (hsz : (s : Int) = sz) (kk : R2 Y d σ (pc + 1) ls (rf (a + (δz + sz * x)) :: st) Q) (hk : kd_ a kd N := by assumption) (h12 : 12 ≤ kd := by decide) (h16 : kd < 16 := by decide) (h1 : 0 ≤ x := by omega) (h2 : x < (N : Int) := by omega) : R2 Y d σ pc ls (iv x :: rf a :: st) Q := by
  have hs := ab_small hk
  have hi : x.toNat < N := by omega
  refine ab_aaload hd (ab_mk_get hk) h12 h16 (i := x.toNat) (by rw [List.length_map, List.length_range]; exact iv_ix h1 h2 (by omega)) (ab_sv_get hi) ?_
  rw [ab_sv_ref hk.1 (ht x.toNat)]
  have e : ((δ + s * x.toNat : Nat) : Int) = δz + sz * x := by
    rw [← hz, ← hsz]
    push_cast
    rw [show ((x.toNat : Nat) : Int) = x by omega]
  rw [e]
  exact kk
theorem tg_12 : ∀ i, ab_tg 12 i = some (2 + 4 * i) := fun _ => rfl
theorem tg_13 : ∀ i, ab_tg 13 i = some (1 + 30 * i) := fun _ => rfl
theorem tg_14 : ∀ i, ab_tg 14 i = some (1 + 23 * i) := fun _ => rfl
theorem tg_15 : ∀ i, ab_tg 15 i = some (1 + 1 * i) := fun i => congrArg (fun z => some (1 + z)) (Nat.one_mul i).symm
theorem r_alen {Y : ab_Y} {d : Nat} {σ : ab_S} {pc : Nat} {ls : List (Option Value)} {st : List Value} {Q : ab_S → Option Value → Prop} {N kd : Nat} {a Nz : Int} (hd : decode Y.2.1 pc = .ok (.arraylength, 1)) (hN : (N : Int) = Nz) (kk : R2 Y d σ (pc + 1) ls (iv Nz :: st) Q) (hk : kd_ a kd N := by assumption) (h10 : 10 ≤ kd := by decide) (h16 : kd < 16 := by decide) : R2 Y d σ pc ls (rf a :: st) Q := by
  refine ab_alen hd (ab_mk_get hk) h10 h16 ?_
  rw [List.length_map, List.length_range]
  subst hN
  exact kk
theorem r_slen {Y : ab_Y} {d : Nat} {σ : ab_S} {pc : Nat} {ls : List (Option Value)} {st : List Value} {Q : ab_S → Option Value → Prop} (hd : decode Y.2.1 pc = .ok (.arraylength, 1)) (h0 : 0 ≤ σ (-1) 0) (kk : R2 Y d σ (pc + 1) ls (iv (σ (-1) 0) :: st) Q) : R2 Y d σ pc ls (rf 0 :: st) Q := by
  refine ab_slen (vs := (ab_scr σ).2) hd rfl ?_
  unfold ab_scr
  rw [List.length_map, List.length_range]
  have e : Int32.ofNat (σ (-1) 0).toNat = Int32.ofInt (σ (-1) 0) := by
    rw [← Int32.ofInt_eq_ofNat, show (((σ (-1) 0).toNat : Nat) : Int) = σ (-1) 0 by omega]
  rw [e]
  exact kk
theorem r_sload {Y : ab_Y} {d : Nat} {σ : ab_S} {pc : Nat} {ls : List (Option Value)} {st : List Value} {Q : ab_S → Option Value → Prop} {x : Int} (hd : decode Y.2.1 pc = .ok (.iaload, 1)) (kk : R2 Y d σ (pc + 1) ls (iv (σ 0 x) :: st) Q) (h1 : 0 ≤ x := by omega) (h2 : x < σ (-1) 0 := by omega) (h3 : σ (-1) 0 < 2147483648 := by omega) : R2 Y d σ pc ls (iv x :: rf 0 :: st) Q := by
  refine ab_sload (vs := (ab_scr σ).2) (i := x.toNat) (y := Int32.ofInt (σ 0 x)) hd rfl ?_ ?_ kk
  · unfold ab_scr
    rw [List.length_map, List.length_range]
    exact iv_ix h1 (by omega) (by omega)
  · unfold ab_scr
    rw [List.getElem?_map, List.getElem?_range (by omega)]
    show some (iv (σ 0 ((x.toNat : Nat) : Int))) = _
    rw [show ((x.toNat : Nat) : Int) = x by omega]
    rfl
/-- a stretch of an int array copied into another -/
def cpy (σ : ab_S) (a0 sp a dp m : Int) : ab_S := fun k i => if k = a ∧ dp ≤ i ∧ i < dp + m then σ a0 (sp + (i - dp)) else σ k i
theorem ab_row_ints {σ : ab_S} {k n : Nat} : ab_ints ((List.range n).map (fun i => ab_sv σ k 10 i)) := by
  intro v hv
  obtain ⟨i, -, rfl⟩ := List.mem_map.mp hv
  exact ⟨_, rfl⟩
theorem ab_mk_cpy {σ : ab_S} {a0 a sp dp m : Int} {N0 N : Nat} (h0 : kd_ a0 10 N0) (h : kd_ a 10 N) (h1 : 0 ≤ sp) (h2 : 0 ≤ dp) (h3 : 0 ≤ m) (h4 : sp + m ≤ N0) (h5 : dp + m ≤ N) : (ab_mk σ).set a.toNat (10, ab_cpy ((List.range N0).map (fun i => ab_sv σ a0.toNat 10 i)) ((List.range N).map (fun i => ab_sv σ a.toNat 10 i)) sp.toNat dp.toNat m.toNat) = ab_mk (cpy σ a0 sp a dp m) := by
  have hk1 : a.toNat - 1 < ab_shp.length := (List.getElem?_eq_some_iff.mp h.2).1
  have hp := h.1
  apply List.ext_getElem?
  intro j
  rw [List.getElem?_set]
  by_cases e : a.toNat = j
  · subst e
    rw [if_pos rfl, if_pos (by rw [ab_mk_len]; omega), ab_mk_get h]
    refine congrArg some (congrArg (Prod.mk 10) ?_)
    unfold ab_cpy
    rw [List.length_map, List.length_range]
    apply List.map_congr_left
    intro q hq
    have hqN := List.mem_range.mp hq
    rw [ab_sv_int hp (ab_tg_arr _)]
    unfold cpy
    by_cases c : dp.toNat ≤ q ∧ q < dp.toNat + m.toNat
    · rw [if_pos c, if_pos (by omega), ab_getD (ab_sv_get (by omega)), ab_sv_int h0.1 (ab_tg_arr _)]
      congr 2
      omega
    · rw [if_neg c, if_neg (by omega), ab_getD (ab_sv_get hqN), ab_sv_int hp (ab_tg_arr _)]
  · rw [if_neg e]
    unfold ab_mk
    cases j with
    | zero =>
      show some (ab_scr σ) = some (ab_scr (cpy σ a0 sp a dp m))
      have e1 : cpy σ a0 sp a dp m (-1) 0 = σ (-1) 0 := if_neg (by omega)
      unfold ab_scr
      rw [e1]
      refine congrArg some (congrArg (Prod.mk 16) ?_)
      apply List.map_congr_left
      intro q hq
      have e2 : cpy σ a0 sp a dp m 0 q = σ 0 q := if_neg (by omega)
      rw [e2]
    | succ j =>
      rw [List.getElem?_cons_succ, List.getElem?_cons_succ, List.getElem?_mapIdx, List.getElem?_mapIdx]
      cases ab_shp[j]? with
      | none => rfl
      | some q =>
        show some (ab_cel σ (j + 1) q) = some (ab_cel (cpy σ a0 sp a dp m) (j + 1) q)
        unfold ab_cel
        refine congrArg some (congrArg (Prod.mk q.1) ?_)
        apply List.map_congr_left
        intro z hz
        unfold ab_sv
        cases ab_tg q.1 z with
        | some δ => rfl
        | none =>
          have e2 : cpy σ a0 sp a dp m ((j + 1 : Nat) : Int) z = σ ((j + 1 : Nat) : Int) z := if_neg (by omega)
          show iv (σ ((j + 1 : Nat) : Int) z) = iv (cpy σ a0 sp a dp m ((j + 1 : Nat) : Int) z)
          rw [e2]
theorem iv_nneg {x : Int} (h1 : 0 ≤ x) (h2 : x ≤ 2147483647) : ¬ Int32.ofInt x < 0 := by
  have : ¬ Int32.ofInt x < Int32.ofInt 0 := by
    rw [iv_inj_lt (by omega) (by omega) (by omega) (by omega)]
    omega
  exact this
theorem iv_clamp {x : Int} (h1 : 0 ≤ x) (h2 : x ≤ 2147483647) : (Int32.ofInt x).toNatClampNeg = x.toNat := by
  show (Int32.ofInt x).toInt.toNat = x.toNat
  rw [iv_toInt (by omega) (by omega)]
theorem r_copy {Y : ab_Y} {d : Nat} {σ : ab_S} {pc : Nat} {ls : List (Option Value)} {st : List Value} {Q : ab_S → Option Value → Prop} {idx N0 N : Nat} {a0 a sp dp m : Int} (w1 : Cond.methodLink Y.1.cls idx arraycopyName ∈ ab_gw) (hd : decode Y.2.1 pc = .ok (.invokestatic idx, 3)) (hk0 : kd_ a0 10 N0) (hk : kd_ a 10 N) (kk : R2 Y d (cpy σ a0 sp a dp m) (pc + 3) ls st Q) (h1 : 0 ≤ sp := by omega) (h2 : 0 ≤ dp := by omega) (h3 : 0 ≤ m := by omega) (h4 : sp + m ≤ N0 := by omega) (h5 : dp + m ≤ N := by omega) (hdd : 1 ≤ d := by omega) (hst : (st.map fun v => v.category).sum ≤ 8 := by exact Nat.le_of_ble_eq_true rfl) : R2 Y d σ pc ls (iv m :: iv dp :: rf a :: iv sp :: rf a0 :: st) Q := by
  have hs := ab_small hk
  have hs0 := ab_small hk0
  refine ab_arraycopy w1 w_native w_acstat w_sysini hd (ab_mk_get hk0) (ab_mk_get hk) ab_row_ints ab_row_ints (iv_nneg h1 (by omega)) (iv_nneg h2 (by omega)) (iv_nneg h3 (by omega)) (iv_clamp h1 (by omega)) (iv_clamp h2 (by omega)) (iv_clamp h3 (by omega)) (by rw [List.length_map, List.length_range]; omega) (by rw [List.length_map, List.length_range]; omega) hdd hst ?_
  rw [ab_mk_cpy hk0 hk h1 h2 h3 h4 h5]
  exact kk
theorem r_iV0I {Y : ab_Y} {d : Nat} {σ : ab_S} {pc : Nat} {ls : List (Option Value)} {st : List Value} {Q : ab_S → Option Value → Prop} {Y2 : ab_Y} {d2 idx ci N : Nat} {a : Int}  {Q2 : ab_S → Int → Prop} (hw : ab_mv Y.1.cls idx Y2 0) (hd : decode Y.2.1 pc = .ok (.invokevirtual idx, 3)) (hCall : C2 Y2 d2 σ (rf a :: []) (PI Q2)) (hk : kd_ a ci N) (kk : ∀ σ' z, Q2 σ' z → R2 Y d σ' (pc + 3) ls (iv z :: st) Q) (hqc : (vwCl[ci]?).map (fun q => q.1) = some Y2.1.cls := by rfl) (hdd : d2 + 1 ≤ d := by omega) (hst : (st.map fun v => v.category).sum ≤ 8 := by exact Nat.le_of_ble_eq_true rfl) : R2 Y d σ pc ls (rf a :: st) Q := by
  obtain ⟨q, hq, hqe⟩ := Option.map_eq_some_iff.mp hqc
  exact ab_invV (k := 0) (n := 0) (k2 := 0) (n2 := 0) (As := []) hw hd (ab_mk_get hk) hq hqe rfl hst hdd hCall (fun M' r ⟨σ', e, z, er, hq⟩ => by subst e; subst er; exact kk σ' z hq)
theorem r_iS0I {Y : ab_Y} {d : Nat} {σ : ab_S} {pc : Nat} {ls : List (Option Value)} {st : List Value} {Q : ab_S → Option Value → Prop} {Y2 : ab_Y} {d2 idx : Nat}  {Q2 : ab_S → Int → Prop} (hw : ab_ms Y.1.cls idx Y2 0) (hd : decode Y.2.1 pc = .ok (.invokestatic idx, 3)) (hCall : C2 Y2 d2 σ [] (PI Q2)) (kk : ∀ σ' z, Q2 σ' z → R2 Y d σ' (pc + 3) ls (iv z :: st) Q) (hdd : d2 + 1 ≤ d := by omega) (hst : (st.map fun v => v.category).sum ≤ 8 := by exact Nat.le_of_ble_eq_true rfl) : R2 Y d σ pc ls (st) Q :=
  ab_invS (k := 0) (n := 0) (k2 := 0) (n2 := 0) (As := []) hw hd rfl hst hdd hCall (fun M' r ⟨σ', e, z, er, hq⟩ => by subst e; subst er; exact kk σ' z hq)
theorem r_iN0I {Y : ab_Y} {d : Nat} {σ : ab_S} {pc : Nat} {ls : List (Option Value)} {st : List Value} {Q : ab_S → Option Value → Prop} {Y2 : ab_Y} {d2 idx : Nat} {host : String}  {Q2 : ab_S → Int → Prop} (hw : ab_msn Y.1.cls idx Y2 0 host) (hd : decode Y.2.1 pc = .ok (.invokestatic idx, 3)) (hCall : C2 Y2 d2 σ [] (PI Q2)) (kk : ∀ σ' z, Q2 σ' z → R2 Y d σ' (pc + 3) ls (iv z :: st) Q) (hdd : d2 + 1 ≤ d := by omega) (hst : (st.map fun v => v.category).sum ≤ 8 := by exact Nat.le_of_ble_eq_true rfl) : R2 Y d σ pc ls (st) Q :=
  ab_invSN (k := 0) (n := 0) (k2 := 0) (n2 := 0) (As := []) hw hd rfl hst hdd hCall (fun M' r ⟨σ', e, z, er, hq⟩ => by subst e; subst er; exact kk σ' z hq)
theorem r_iV0V {Y : ab_Y} {d : Nat} {σ : ab_S} {pc : Nat} {ls : List (Option Value)} {st : List Value} {Q : ab_S → Option Value → Prop} {Y2 : ab_Y} {d2 idx ci N : Nat} {a : Int}  {Q2 : ab_S → Prop} (hw : ab_mv Y.1.cls idx Y2 0) (hd : decode Y.2.1 pc = .ok (.invokevirtual idx, 3)) (hCall : C2 Y2 d2 σ (rf a :: []) (PV Q2)) (hk : kd_ a ci N) (kk : ∀ σ', Q2 σ' → R2 Y d σ' (pc + 3) ls st Q) (hqc : (vwCl[ci]?).map (fun q => q.1) = some Y2.1.cls := by rfl) (hdd : d2 + 1 ≤ d := by omega) (hst : (st.map fun v => v.category).sum ≤ 8 := by exact Nat.le_of_ble_eq_true rfl) : R2 Y d σ pc ls (rf a :: st) Q := by
  obtain ⟨q, hq, hqe⟩ := Option.map_eq_some_iff.mp hqc
  exact ab_invV (k := 0) (n := 0) (k2 := 0) (n2 := 0) (As := []) hw hd (ab_mk_get hk) hq hqe rfl hst hdd hCall (fun M' r ⟨σ', e, er, hq⟩ => by subst e; subst er; exact kk σ' hq)
theorem r_iS0V {Y : ab_Y} {d : Nat} {σ : ab_S} {pc : Nat} {ls : List (Option Value)} {st : List Value} {Q : ab_S → Option Value → Prop} {Y2 : ab_Y} {d2 idx : Nat}  {Q2 : ab_S → Prop} (hw : ab_ms Y.1.cls idx Y2 0) (hd : decode Y.2.1 pc = .ok (.invokestatic idx, 3)) (hCall : C2 Y2 d2 σ [] (PV Q2)) (kk : ∀ σ', Q2 σ' → R2 Y d σ' (pc + 3) ls st Q) (hdd : d2 + 1 ≤ d := by omega) (hst : (st.map fun v => v.category).sum ≤ 8 := by exact Nat.le_of_ble_eq_true rfl) : R2 Y d σ pc ls (st) Q :=
  ab_invS (k := 0) (n := 0) (k2 := 0) (n2 := 0) (As := []) hw hd rfl hst hdd hCall (fun M' r ⟨σ', e, er, hq⟩ => by subst e; subst er; exact kk σ' hq)
theorem r_iN0V {Y : ab_Y} {d : Nat} {σ : ab_S} {pc : Nat} {ls : List (Option Value)} {st : List Value} {Q : ab_S → Option Value → Prop} {Y2 : ab_Y} {d2 idx : Nat} {host : String}  {Q2 : ab_S → Prop} (hw : ab_msn Y.1.cls idx Y2 0 host) (hd : decode Y.2.1 pc = .ok (.invokestatic idx, 3)) (hCall : C2 Y2 d2 σ [] (PV Q2)) (kk : ∀ σ', Q2 σ' → R2 Y d σ' (pc + 3) ls st Q) (hdd : d2 + 1 ≤ d := by omega) (hst : (st.map fun v => v.category).sum ≤ 8 := by exact Nat.le_of_ble_eq_true rfl) : R2 Y d σ pc ls (st) Q :=
  ab_invSN (k := 0) (n := 0) (k2 := 0) (n2 := 0) (As := []) hw hd rfl hst hdd hCall (fun M' r ⟨σ', e, er, hq⟩ => by subst e; subst er; exact kk σ' hq)
theorem r_iV0L {Y : ab_Y} {d : Nat} {σ : ab_S} {pc : Nat} {ls : List (Option Value)} {st : List Value} {Q : ab_S → Option Value → Prop} {Y2 : ab_Y} {d2 idx ci N : Nat} {a : Int}  {Q2 : ab_S → Int → Prop} (hw : ab_mv Y.1.cls idx Y2 0) (hd : decode Y.2.1 pc = .ok (.invokevirtual idx, 3)) (hCall : C2 Y2 d2 σ (rf a :: []) (PL Q2)) (hk : kd_ a ci N) (kk : ∀ σ' z, Q2 σ' z → R2 Y d σ' (pc + 3) ls (lgv z :: st) Q) (hqc : (vwCl[ci]?).map (fun q => q.1) = some Y2.1.cls := by rfl) (hdd : d2 + 1 ≤ d := by omega) (hst : (st.map fun v => v.category).sum ≤ 8 := by exact Nat.le_of_ble_eq_true rfl) : R2 Y d σ pc ls (rf a :: st) Q := by
  obtain ⟨q, hq, hqe⟩ := Option.map_eq_some_iff.mp hqc
  exact ab_invV (k := 0) (n := 0) (k2 := 0) (n2 := 0) (As := []) hw hd (ab_mk_get hk) hq hqe rfl hst hdd hCall (fun M' r ⟨σ', e, z, er, hq⟩ => by subst e; subst er; exact kk σ' z hq)
theorem r_iS0L {Y : ab_Y} {d : Nat} {σ : ab_S} {pc : Nat} {ls : List (Option Value)} {st : List Value} {Q : ab_S → Option Value → Prop} {Y2 : ab_Y} {d2 idx : Nat}  {Q2 : ab_S → Int → Prop} (hw : ab_ms Y.1.cls idx Y2 0) (hd : decode Y.2.1 pc = .ok (.invokestatic idx, 3)) (hCall : C2 Y2 d2 σ [] (PL Q2)) (kk : ∀ σ' z, Q2 σ' z → R2 Y d σ' (pc + 3) ls (lgv z :: st) Q) (hdd : d2 + 1 ≤ d := by omega) (hst : (st.map fun v => v.category).sum ≤ 8 := by exact Nat.le_of_ble_eq_true rfl) : R2 Y d σ pc ls (st) Q :=
  ab_invS (k := 0) (n := 0) (k2 := 0) (n2 := 0) (As := []) hw hd rfl hst hdd hCall (fun M' r ⟨σ', e, z, er, hq⟩ => by subst e; subst er; exact kk σ' z hq)
theorem r_iN0L {Y : ab_Y} {d : Nat} {σ : ab_S} {pc : Nat} {ls : List (Option Value)} {st : List Value} {Q : ab_S → Option Value → Prop} {Y2 : ab_Y} {d2 idx : Nat} {host : String}  {Q2 : ab_S → Int → Prop} (hw : ab_msn Y.1.cls idx Y2 0 host) (hd : decode Y.2.1 pc = .ok (.invokestatic idx, 3)) (hCall : C2 Y2 d2 σ [] (PL Q2)) (kk : ∀ σ' z, Q2 σ' z → R2 Y d σ' (pc + 3) ls (lgv z :: st) Q) (hdd : d2 + 1 ≤ d := by omega) (hst : (st.map fun v => v.category).sum ≤ 8 := by exact Nat.le_of_ble_eq_true rfl) : R2 Y d σ pc ls (st) Q :=
  ab_invSN (k := 0) (n := 0) (k2 := 0) (n2 := 0) (As := []) hw hd rfl hst hdd hCall (fun M' r ⟨σ', e, z, er, hq⟩ => by subst e; subst er; exact kk σ' z hq)
theorem r_iV1I {Y : ab_Y} {d : Nat} {σ : ab_S} {pc : Nat} {ls : List (Option Value)} {st : List Value} {Q : ab_S → Option Value → Prop} {Y2 : ab_Y} {d2 idx ci N : Nat} {a : Int} {v1 : Value} {Q2 : ab_S → Int → Prop} (hw : ab_mv Y.1.cls idx Y2 1) (hd : decode Y.2.1 pc = .ok (.invokevirtual idx, 3)) (hCall : C2 Y2 d2 σ (rf a :: [v1]) (PI Q2)) (hk : kd_ a ci N) (kk : ∀ σ' z, Q2 σ' z → R2 Y d σ' (pc + 3) ls (iv z :: st) Q) (hqc : (vwCl[ci]?).map (fun q => q.1) = some Y2.1.cls := by rfl) (hdd : d2 + 1 ≤ d := by omega) (hst : (st.map fun v => v.category).sum ≤ 8 := by exact Nat.le_of_ble_eq_true rfl) : R2 Y d σ pc ls (v1 :: rf a :: st) Q := by
  obtain ⟨q, hq, hqe⟩ := Option.map_eq_some_iff.mp hqc
  exact ab_invV (k := 0) (n := 0) (k2 := 0) (n2 := 0) (As := [v1]) hw hd (ab_mk_get hk) hq hqe rfl hst hdd hCall (fun M' r ⟨σ', e, z, er, hq⟩ => by subst e; subst er; exact kk σ' z hq)
theorem r_iS1I {Y : ab_Y} {d : Nat} {σ : ab_S} {pc : Nat} {ls : List (Option Value)} {st : List Value} {Q : ab_S → Option Value → Prop} {Y2 : ab_Y} {d2 idx : Nat} {v1 : Value} {Q2 : ab_S → Int → Prop} (hw : ab_ms Y.1.cls idx Y2 1) (hd : decode Y.2.1 pc = .ok (.invokestatic idx, 3)) (hCall : C2 Y2 d2 σ [v1] (PI Q2)) (kk : ∀ σ' z, Q2 σ' z → R2 Y d σ' (pc + 3) ls (iv z :: st) Q) (hdd : d2 + 1 ≤ d := by omega) (hst : (st.map fun v => v.category).sum ≤ 8 := by exact Nat.le_of_ble_eq_true rfl) : R2 Y d σ pc ls (v1 :: st) Q :=
  ab_invS (k := 0) (n := 0) (k2 := 0) (n2 := 0) (As := [v1]) hw hd rfl hst hdd hCall (fun M' r ⟨σ', e, z, er, hq⟩ => by subst e; subst er; exact kk σ' z hq)
theorem r_iN1I {Y : ab_Y} {d : Nat} {σ : ab_S} {pc : Nat} {ls : List (Option Value)} {st : List Value} {Q : ab_S → Option Value → Prop} {Y2 : ab_Y} {d2 idx : Nat} {host : String} {v1 : Value} {Q2 : ab_S → Int → Prop} (hw : ab_msn Y.1.cls idx Y2 1 host) (hd : decode Y.2.1 pc = .ok (.invokestatic idx, 3)) (hCall : C2 Y2 d2 σ [v1] (PI Q2)) (kk : ∀ σ' z, Q2 σ' z → R2 Y d σ' (pc + 3) ls (iv z :: st) Q) (hdd : d2 + 1 ≤ d := by omega) (hst : (st.map fun v => v.category).sum ≤ 8 := by exact Nat.le_of_ble_eq_true rfl) : R2 Y d σ pc ls (v1 :: st) Q :=
  ab_invSN (k := 0) (n := 0) (k2 := 0) (n2 := 0) (As := [v1]) hw hd rfl hst hdd hCall (fun M' r ⟨σ', e, z, er, hq⟩ => by subst e; subst er; exact kk σ' z hq)
theorem r_iV1V {Y : ab_Y} {d : Nat} {σ : ab_S} {pc : Nat} {ls : List (Option Value)} {st : List Value} {Q : ab_S → Option Value → Prop} {Y2 : ab_Y} {d2 idx ci N : Nat} {a : Int} {v1 : Value} {Q2 : ab_S → Prop} (hw : ab_mv Y.1.cls idx Y2 1) (hd : decode Y.2.1 pc = .ok (.invokevirtual idx, 3)) (hCall : C2 Y2 d2 σ (rf a :: [v1]) (PV Q2)) (hk : kd_ a ci N) (kk : ∀ σ', Q2 σ' → R2 Y d σ' (pc + 3) ls st Q) (hqc : (vwCl[ci]?).map (fun q => q.1) = some Y2.1.cls := by rfl) (hdd : d2 + 1 ≤ d := by omega) (hst : (st.map fun v => v.category).sum ≤ 8 := by exact Nat.le_of_ble_eq_true rfl) : R2 Y d σ pc ls (v1 :: rf a :: st) Q := by
  obtain ⟨q, hq, hqe⟩ := Option.map_eq_some_iff.mp hqc
  exact ab_invV (k := 0) (n := 0) (k2 := 0) (n2 := 0) (As := [v1]) hw hd (ab_mk_get hk) hq hqe rfl hst hdd hCall (fun M' r ⟨σ', e, er, hq⟩ => by subst e; subst er; exact kk σ' hq)
theorem r_iS1V {Y : ab_Y} {d : Nat} {σ : ab_S} {pc : Nat} {ls : List (Option Value)} {st : List Value} {Q : ab_S → Option Value → Prop} {Y2 : ab_Y} {d2 idx : Nat} {v1 : Value} {Q2 : ab_S → Prop} (hw : ab_ms Y.1.cls idx Y2 1) (hd : decode Y.2.1 pc = .ok (.invokestatic idx, 3)) (hCall : C2 Y2 d2 σ [v1] (PV Q2)) (kk : ∀ σ', Q2 σ' → R2 Y d σ' (pc + 3) ls st Q) (hdd : d2 + 1 ≤ d := by omega) (hst : (st.map fun v => v.category).sum ≤ 8 := by exact Nat.le_of_ble_eq_true rfl) : R2 Y d σ pc ls (v1 :: st) Q :=
  ab_invS (k := 0) (n := 0) (k2 := 0) (n2 := 0) (As := [v1]) hw hd rfl hst hdd hCall (fun M' r ⟨σ', e, er, hq⟩ => by subst e; subst er; exact kk σ' hq)
theorem r_iN1V {Y : ab_Y} {d : Nat} {σ : ab_S} {pc : Nat} {ls : List (Option Value)} {st : List Value} {Q : ab_S → Option Value → Prop} {Y2 : ab_Y} {d2 idx : Nat} {host : String} {v1 : Value} {Q2 : ab_S → Prop} (hw : ab_msn Y.1.cls idx Y2 1 host) (hd : decode Y.2.1 pc = .ok (.invokestatic idx, 3)) (hCall : C2 Y2 d2 σ [v1] (PV Q2)) (kk : ∀ σ', Q2 σ' → R2 Y d σ' (pc + 3) ls st Q) (hdd : d2 + 1 ≤ d := by omega) (hst : (st.map fun v => v.category).sum ≤ 8 := by exact Nat.le_of_ble_eq_true rfl) : R2 Y d σ pc ls (v1 :: st) Q :=
  ab_invSN (k := 0) (n := 0) (k2 := 0) (n2 := 0) (As := [v1]) hw hd rfl hst hdd hCall (fun M' r ⟨σ', e, er, hq⟩ => by subst e; subst er; exact kk σ' hq)
theorem r_iV1L {Y : ab_Y} {d : Nat} {σ : ab_S} {pc : Nat} {ls : List (Option Value)} {st : List Value} {Q : ab_S → Option Value → Prop} {Y2 : ab_Y} {d2 idx ci N : Nat} {a : Int} {v1 : Value} {Q2 : ab_S → Int → Prop} (hw : ab_mv Y.1.cls idx Y2 1) (hd : decode Y.2.1 pc = .ok (.invokevirtual idx, 3)) (hCall : C2 Y2 d2 σ (rf a :: [v1]) (PL Q2)) (hk : kd_ a ci N) (kk : ∀ σ' z, Q2 σ' z → R2 Y d σ' (pc + 3) ls (lgv z :: st) Q) (hqc : (vwCl[ci]?).map (fun q => q.1) = some Y2.1.cls := by rfl) (hdd : d2 + 1 ≤ d := by omega) (hst : (st.map fun v => v.category).sum ≤ 8 := by exact Nat.le_of_ble_eq_true rfl) : R2 Y d σ pc ls (v1 :: rf a :: st) Q := by
  obtain ⟨q, hq, hqe⟩ := Option.map_eq_some_iff.mp hqc
  exact ab_invV (k := 0) (n := 0) (k2 := 0) (n2 := 0) (As := [v1]) hw hd (ab_mk_get hk) hq hqe rfl hst hdd hCall (fun M' r ⟨σ', e, z, er, hq⟩ => by subst e; subst er; exact kk σ' z hq)
theorem r_iS1L {Y : ab_Y} {d : Nat} {σ : ab_S} {pc : Nat} {ls : List (Option Value)} {st : List Value} {Q : ab_S → Option Value → Prop} {Y2 : ab_Y} {d2 idx : Nat} {v1 : Value} {Q2 : ab_S → Int → Prop} (hw : ab_ms Y.1.cls idx Y2 1) (hd : decode Y.2.1 pc = .ok (.invokestatic idx, 3)) (hCall : C2 Y2 d2 σ [v1] (PL Q2)) (kk : ∀ σ' z, Q2 σ' z → R2 Y d σ' (pc + 3) ls (lgv z :: st) Q) (hdd : d2 + 1 ≤ d := by omega) (hst : (st.map fun v => v.category).sum ≤ 8 := by exact Nat.le_of_ble_eq_true rfl) : R2 Y d σ pc ls (v1 :: st) Q :=
  ab_invS (k := 0) (n := 0) (k2 := 0) (n2 := 0) (As := [v1]) hw hd rfl hst hdd hCall (fun M' r ⟨σ', e, z, er, hq⟩ => by subst e; subst er; exact kk σ' z hq)
theorem r_iN1L {Y : ab_Y} {d : Nat} {σ : ab_S} {pc : Nat} {ls : List (Option Value)} {st : List Value} {Q : ab_S → Option Value → Prop} {Y2 : ab_Y} {d2 idx : Nat} {host : String} {v1 : Value} {Q2 : ab_S → Int → Prop} (hw : ab_msn Y.1.cls idx Y2 1 host) (hd : decode Y.2.1 pc = .ok (.invokestatic idx, 3)) (hCall : C2 Y2 d2 σ [v1] (PL Q2)) (kk : ∀ σ' z, Q2 σ' z → R2 Y d σ' (pc + 3) ls (lgv z :: st) Q) (hdd : d2 + 1 ≤ d := by omega) (hst : (st.map fun v => v.category).sum ≤ 8 := by exact Nat.le_of_ble_eq_true rfl) : R2 Y d σ pc ls (v1 :: st) Q :=
  ab_invSN (k := 0) (n := 0) (k2 := 0) (n2 := 0) (As := [v1]) hw hd rfl hst hdd hCall (fun M' r ⟨σ', e, z, er, hq⟩ => by subst e; subst er; exact kk σ' z hq)
theorem r_iV2I {Y : ab_Y} {d : Nat} {σ : ab_S} {pc : Nat} {ls : List (Option Value)} {st : List Value} {Q : ab_S → Option Value → Prop} {Y2 : ab_Y} {d2 idx ci N : Nat} {a : Int} {v1 v2 : Value} {Q2 : ab_S → Int → Prop} (hw : ab_mv Y.1.cls idx Y2 2) (hd : decode Y.2.1 pc = .ok (.invokevirtual idx, 3)) (hCall : C2 Y2 d2 σ (rf a :: [v1, v2]) (PI Q2)) (hk : kd_ a ci N) (kk : ∀ σ' z, Q2 σ' z → R2 Y d σ' (pc + 3) ls (iv z :: st) Q) (hqc : (vwCl[ci]?).map (fun q => q.1) = some Y2.1.cls := by rfl) (hdd : d2 + 1 ≤ d := by omega) (hst : (st.map fun v => v.category).sum ≤ 8 := by exact Nat.le_of_ble_eq_true rfl) : R2 Y d σ pc ls (v2 :: v1 :: rf a :: st) Q := by
  obtain ⟨q, hq, hqe⟩ := Option.map_eq_some_iff.mp hqc
  exact ab_invV (k := 0) (n := 0) (k2 := 0) (n2 := 0) (As := [v1, v2]) hw hd (ab_mk_get hk) hq hqe rfl hst hdd hCall (fun M' r ⟨σ', e, z, er, hq⟩ => by subst e; subst er; exact kk σ' z hq)
theorem r_iS2I {Y : ab_Y} {d : Nat} {σ : ab_S} {pc : Nat} {ls : List (Option Value)} {st : List Value} {Q : ab_S → Option Value → Prop} {Y2 : ab_Y} {d2 idx : Nat} {v1 v2 : Value} {Q2 : ab_S → Int → Prop} (hw : ab_ms Y.1.cls idx Y2 2) (hd : decode Y.2.1 pc = .ok (.invokestatic idx, 3)) (hCall : C2 Y2 d2 σ [v1, v2] (PI Q2)) (kk : ∀ σ' z, Q2 σ' z → R2 Y d σ' (pc + 3) ls (iv z :: st) Q) (hdd : d2 + 1 ≤ d := by omega) (hst : (st.map fun v => v.category).sum ≤ 8 := by exact Nat.le_of_ble_eq_true rfl) : R2 Y d σ pc ls (v2 :: v1 :: st) Q :=
  ab_invS (k := 0) (n := 0) (k2 := 0) (n2 := 0) (As := [v1, v2]) hw hd rfl hst hdd hCall (fun M' r ⟨σ', e, z, er, hq⟩ => by subst e; subst er; exact kk σ' z hq)
theorem r_iN2I {Y : ab_Y} {d : Nat} {σ : ab_S} {pc : Nat} {ls : List (Option Value)} {st : List Value} {Q : ab_S → Option Value → Prop} {Y2 : ab_Y} {d2 idx : Nat} {host : String} {v1 v2 : Value} {Q2 : ab_S → Int → Prop} (hw : ab_msn Y.1.cls idx Y2 2 host) (hd : decode Y.2.1 pc = .ok (.invokestatic idx, 3)) (hCall : C2 Y2 d2 σ [v1, v2] (PI Q2)) (kk : ∀ σ' z, Q2 σ' z → R2 Y d σ' (pc + 3) ls (iv z :: st) Q) (hdd : d2 + 1 ≤ d := by omega) (hst : (st.map fun v => v.category).sum ≤ 8 := by exact Nat.le_of_ble_eq_true rfl) : R2 Y d σ pc ls (v2 :: v1 :: st) Q :=
  ab_invSN (k := 0) (n := 0) (k2 := 0) (n2 := 0) (As := [v1, v2]) hw hd rfl hst hdd hCall (fun M' r ⟨σ', e, z, er, hq⟩ => by subst e; subst er; exact kk σ' z hq)
theorem r_iV2V {Y : ab_Y} {d : Nat} {σ : ab_S} {pc : Nat} {ls : List (Option Value)} {st : List Value} {Q : ab_S → Option Value → Prop} {Y2 : ab_Y} {d2 idx ci N : Nat} {a : Int} {v1 v2 : Value} {Q2 : ab_S → Prop} (hw : ab_mv Y.1.cls idx Y2 2) (hd : decode Y.2.1 pc = .ok (.invokevirtual idx, 3)) (hCall : C2 Y2 d2 σ (rf a :: [v1, v2]) (PV Q2)) (hk : kd_ a ci N) (kk : ∀ σ', Q2 σ' → R2 Y d σ' (pc + 3) ls st Q) (hqc : (vwCl[ci]?).map (fun q => q.1) = some Y2.1.cls := by rfl) (hdd : d2 + 1 ≤ d := by omega) (hst : (st.map fun v => v.category).sum ≤ 8 := by exact Nat.le_of_ble_eq_true rfl) : R2 Y d σ pc ls (v2 :: v1 :: rf a :: st) Q := by
  obtain ⟨q, hq, hqe⟩ := Option.map_eq_some_iff.mp hqc
  exact ab_invV (k := 0) (n := 0) (k2 := 0) (n2 := 0) (As := [v1, v2]) hw hd (ab_mk_get hk) hq hqe rfl hst hdd hCall (fun M' r ⟨σ', e, er, hq⟩ => by subst e; subst er; exact kk σ' hq)
theorem r_iS2V {Y : ab_Y} {d : Nat} {σ : ab_S} {pc : Nat} {ls : List (Option Value)} {st : List Value} {Q : ab_S → Option Value → Prop} {Y2 : ab_Y} {d2 idx : Nat} {v1 v2 : Value} {Q2 : ab_S → Prop} (hw : ab_ms Y.1.cls idx Y2 2) (hd : decode Y.2.1 pc = .ok (.invokestatic idx, 3)) (hCall : C2 Y2 d2 σ [v1, v2] (PV Q2)) (kk : ∀ σ', Q2 σ' → R2 Y d σ' (pc + 3) ls st Q) (hdd : d2 + 1 ≤ d := by omega) (hst : (st.map fun v => v.category).sum ≤ 8 := by exact Nat.le_of_ble_eq_true rfl) : R2 Y d σ pc ls (v2 :: v1 :: st) Q :=
  ab_invS (k := 0) (n := 0) (k2 := 0) (n2 := 0) (As := [v1, v2]) hw hd rfl hst hdd hCall (fun M' r ⟨σ', e, er, hq⟩ => by subst e; subst er; exact kk σ' hq)
theorem r_iN2V {Y : ab_Y} {d : Nat} {σ : ab_S} {pc : Nat} {ls : List (Option Value)} {st : List Value} {Q : ab_S → Option Value → Prop} {Y2 : ab_Y} {d2 idx : Nat} {host : String} {v1 v2 : Value} {Q2 : ab_S → Prop} (hw : ab_msn Y.1.cls idx Y2 2 host) (hd : decode Y.2.1 pc = .ok (.invokestatic idx, 3)) (hCall : C2 Y2 d2 σ [v1, v2] (PV Q2)) (kk : ∀ σ', Q2 σ' → R2 Y d σ' (pc + 3) ls st Q) (hdd : d2 + 1 ≤ d := by omega) (hst : (st.map fun v => v.category).sum ≤ 8 := by exact Nat.le_of_ble_eq_true rfl) : R2 Y d σ pc ls (v2 :: v1 :: st) Q :=
  ab_invSN (k := 0) (n := 0) (k2 := 0) (n2 := 0) (As := [v1, v2]) hw hd rfl hst hdd hCall (fun M' r ⟨σ', e, er, hq⟩ => by subst e; subst er; exact kk σ' hq)
theorem r_iV2L {Y : ab_Y} {d : Nat} {σ : ab_S} {pc : Nat} {ls : List (Option Value)} {st : List Value} {Q : ab_S → Option Value → Prop} {Y2 : ab_Y} {d2 idx ci N : Nat} {a : Int} {v1 v2 : Value} {Q2 : ab_S → Int → Prop} (hw : ab_mv Y.1.cls idx Y2 2) (hd : decode Y.2.1 pc = .ok (.invokevirtual idx, 3)) (hCall : C2 Y2 d2 σ (rf a :: [v1, v2]) (PL Q2)) (hk : kd_ a ci N) (kk : ∀ σ' z, Q2 σ' z → R2 Y d σ' (pc + 3) ls (lgv z :: st) Q) (hqc : (vwCl[ci]?).map (fun q => q.1) = some Y2.1.cls := by rfl) (hdd : d2 + 1 ≤ d := by omega) (hst : (st.map fun v => v.category).sum ≤ 8 := by exact Nat.le_of_ble_eq_true rfl) : R2 Y d σ pc ls (v2 :: v1 :: rf a :: st) Q := by
  obtain ⟨q, hq, hqe⟩ := Option.map_eq_some_iff.mp hqc
  exact ab_invV (k := 0) (n := 0) (k2 := 0) (n2 := 0) (As := [v1, v2]) hw hd (ab_mk_get hk) hq hqe rfl hst hdd hCall (fun M' r ⟨σ', e, z, er, hq⟩ => by subst e; subst er; exact kk σ' z hq)
theorem r_iS2L {Y : ab_Y} {d : Nat} {σ : ab_S} {pc : Nat} {ls : List (Option Value)} {st : List Value} {Q : ab_S → Option Value → Prop} {Y2 : ab_Y} {d2 idx : Nat} {v1 v2 : Value} {Q2 : ab_S → Int → Prop} (hw : ab_ms Y.1.cls idx Y2 2) (hd : decode Y.2.1 pc = .ok (.invokestatic idx, 3)) (hCall : C2 Y2 d2 σ [v1, v2] (PL Q2)) (kk : ∀ σ' z, Q2 σ' z → R2 Y d σ' (pc + 3) ls (lgv z :: st) Q) (hdd : d2 + 1 ≤ d := by omega) (hst : (st.map fun v => v.category).sum ≤ 8 := by exact Nat.le_of_ble_eq_true rfl) : R2 Y d σ pc ls (v2 :: v1 :: st) Q :=
  ab_invS (k := 0) (n := 0) (k2 := 0) (n2 := 0) (As := [v1, v2]) hw hd rfl hst hdd hCall (fun M' r ⟨σ', e, z, er, hq⟩ => by subst e; subst er; exact kk σ' z hq)
theorem r_iN2L {Y : ab_Y} {d : Nat} {σ : ab_S} {pc : Nat} {ls : List (Option Value)} {st : List Value} {Q : ab_S → Option Value → Prop} {Y2 : ab_Y} {d2 idx : Nat} {host : String} {v1 v2 : Value} {Q2 : ab_S → Int → Prop} (hw : ab_msn Y.1.cls idx Y2 2 host) (hd : decode Y.2.1 pc = .ok (.invokestatic idx, 3)) (hCall : C2 Y2 d2 σ [v1, v2] (PL Q2)) (kk : ∀ σ' z, Q2 σ' z → R2 Y d σ' (pc + 3) ls (lgv z :: st) Q) (hdd : d2 + 1 ≤ d := by omega) (hst : (st.map fun v => v.category).sum ≤ 8 := by exact Nat.le_of_ble_eq_true rfl) : R2 Y d σ pc ls (v2 :: v1 :: st) Q :=
  ab_invSN (k := 0) (n := 0) (k2 := 0) (n2 := 0) (As := [v1, v2]) hw hd rfl hst hdd hCall (fun M' r ⟨σ', e, z, er, hq⟩ => by subst e; subst er; exact kk σ' z hq)
theorem r_iV3I {Y : ab_Y} {d : Nat} {σ : ab_S} {pc : Nat} {ls : List (Option Value)} {st : List Value} {Q : ab_S → Option Value → Prop} {Y2 : ab_Y} {d2 idx ci N : Nat} {a : Int} {v1 v2 v3 : Value} {Q2 : ab_S → Int → Prop} (hw : ab_mv Y.1.cls idx Y2 3) (hd : decode Y.2.1 pc = .ok (.invokevirtual idx, 3)) (hCall : C2 Y2 d2 σ (rf a :: [v1, v2, v3]) (PI Q2)) (hk : kd_ a ci N) (kk : ∀ σ' z, Q2 σ' z → R2 Y d σ' (pc + 3) ls (iv z :: st) Q) (hqc : (vwCl[ci]?).map (fun q => q.1) = some Y2.1.cls := by rfl) (hdd : d2 + 1 ≤ d := by omega) (hst : (st.map fun v => v.category).sum ≤ 8 := by exact Nat.le_of_ble_eq_true rfl) : R2 Y d σ pc ls (v3 :: v2 :: v1 :: rf a :: st) Q := by
  obtain ⟨q, hq, hqe⟩ := Option.map_eq_some_iff.mp hqc
  exact ab_invV (k := 0) (n := 0) (k2 := 0) (n2 := 0) (As := [v1, v2, v3]) hw hd (ab_mk_get hk) hq hqe rfl hst hdd hCall (fun M' r ⟨σ', e, z, er, hq⟩ => by subst e; subst er; exact kk σ' z hq)
theorem r_iS3I {Y : ab_Y} {d : Nat} {σ : ab_S} {pc : Nat} {ls : List (Option Value)} {st : List Value} {Q : ab_S → Option Value → Prop} {Y2 : ab_Y} {d2 idx : Nat} {v1 v2 v3 : Value} {Q2 : ab_S → Int → Prop} (hw : ab_ms Y.1.cls idx Y2 3) (hd : decode Y.2.1 pc = .ok (.invokestatic idx, 3)) (hCall : C2 Y2 d2 σ [v1, v2, v3] (PI Q2)) (kk : ∀ σ' z, Q2 σ' z → R2 Y d σ' (pc + 3) ls (iv z :: st) Q) (hdd : d2 + 1 ≤ d := by omega) (hst : (st.map fun v => v.category).sum ≤ 8 := by exact Nat.le_of_ble_eq_true rfl) : R2 Y d σ pc ls (v3 :: v2 :: v1 :: st) Q :=
  ab_invS (k := 0) (n := 0) (k2 := 0) (n2 := 0) (As := [v1, v2, v3]) hw hd rfl hst hdd hCall (fun M' r ⟨σ', e, z, er, hq⟩ => by subst e; subst er; exact kk σ' z hq)
theorem r_iN3I {Y : ab_Y} {d : Nat} {σ : ab_S} {pc : Nat} {ls : List (Option Value)} {st : List Value} {Q : ab_S → Option Value → Prop} {Y2 : ab_Y} {d2 idx : Nat} {host : String} {v1 v2 v3 : Value} {Q2 : ab_S → Int → Prop} (hw : ab_msn Y.1.cls idx Y2 3 host) (hd : decode Y.2.1 pc = .ok (.invokestatic idx, 3)) (hCall : C2 Y2 d2 σ [v1, v2, v3] (PI Q2)) (kk : ∀ σ' z, Q2 σ' z → R2 Y d σ' (pc + 3) ls (iv z :: st) Q) (hdd : d2 + 1 ≤ d := by omega) (hst : (st.map fun v => v.category).sum ≤ 8 := by exact Nat.le_of_ble_eq_true rfl) : R2 Y d σ pc ls (v3 :: v2 :: v1 :: st) Q :=
  ab_invSN (k := 0) (n := 0) (k2 := 0) (n2 := 0) (As := [v1, v2, v3]) hw hd rfl hst hdd hCall (fun M' r ⟨σ', e, z, er, hq⟩ => by subst e; subst er; exact kk σ' z hq)
theorem r_iV3V {Y : ab_Y} {d : Nat} {σ : ab_S} {pc : Nat} {ls : List (Option Value)} {st : List Value} {Q : ab_S → Option Value → Prop} {Y2 : ab_Y} {d2 idx ci N : Nat} {a : Int} {v1 v2 v3 : Value} {Q2 : ab_S → Prop} (hw : ab_mv Y.1.cls idx Y2 3) (hd : decode Y.2.1 pc = .ok (.invokevirtual idx, 3)) (hCall : C2 Y2 d2 σ (rf a :: [v1, v2, v3]) (PV Q2)) (hk : kd_ a ci N) (kk : ∀ σ', Q2 σ' → R2 Y d σ' (pc + 3) ls st Q) (hqc : (vwCl[ci]?).map (fun q => q.1) = some Y2.1.cls := by rfl) (hdd : d2 + 1 ≤ d := by omega) (hst : (st.map fun v => v.category).sum ≤ 8 := by exact Nat.le_of_ble_eq_true rfl) : R2 Y d σ pc ls (v3 :: v2 :: v1 :: rf a :: st) Q := by
  obtain ⟨q, hq, hqe⟩ := Option.map_eq_some_iff.mp hqc
  exact ab_invV (k := 0) (n := 0) (k2 := 0) (n2 := 0) (As := [v1, v2, v3]) hw hd (ab_mk_get hk) hq hqe rfl hst hdd hCall (fun M' r ⟨σ', e, er, hq⟩ => by subst e; subst er; exact kk σ' hq)
theorem r_iS3V {Y : ab_Y} {d : Nat} {σ : ab_S} {pc : Nat} {ls : List (Option Value)} {st : List Value} {Q : ab_S → Option Value → Prop} {Y2 : ab_Y} {d2 idx : Nat} {v1 v2 v3 : Value} {Q2 : ab_S → Prop} (hw : ab_ms Y.1.cls idx Y2 3) (hd : decode Y.2.1 pc = .ok (.invokestatic idx, 3)) (hCall : C2 Y2 d2 σ [v1, v2, v3] (PV Q2)) (kk : ∀ σ', Q2 σ' → R2 Y d σ' (pc + 3) ls st Q) (hdd : d2 + 1 ≤ d := by omega) (hst : (st.map fun v => v.category).sum ≤ 8 := by exact Nat.le_of_ble_eq_true rfl) : R2 Y d σ pc ls (v3 :: v2 :: v1 :: st) Q :=
  ab_invS (k := 0) (n := 0) (k2 := 0) (n2 := 0) (As := [v1, v2, v3]) hw hd rfl hst hdd hCall (fun M' r ⟨σ', e, er, hq⟩ => by subst e; subst er; exact kk σ' hq)
theorem r_iN3V {Y : ab_Y} {d : Nat} {σ : ab_S} {pc : Nat} {ls : List (Option Value)} {st : List Value} {Q : ab_S → Option Value → Prop} {Y2 : ab_Y} {d2 idx : Nat} {host : String} {v1 v2 v3 : Value} {Q2 : ab_S → Prop} (hw : ab_msn Y.1.cls idx Y2 3 host) (hd : decode Y.2.1 pc = .ok (.invokestatic idx, 3)) (hCall : C2 Y2 d2 σ [v1, v2, v3] (PV Q2)) (kk : ∀ σ', Q2 σ' → R2 Y d σ' (pc + 3) ls st Q) (hdd : d2 + 1 ≤ d := by omega) (hst : (st.map fun v => v.category).sum ≤ 8 := by exact Nat.le_of_ble_eq_true rfl) : R2 Y d σ pc ls (v3 :: v2 :: v1 :: st) Q :=
  ab_invSN (k := 0) (n := 0) (k2 := 0) (n2 := 0) (As := [v1, v2, v3]) hw hd rfl hst hdd hCall (fun M' r ⟨σ', e, er, hq⟩ => by subst e; subst er; exact kk σ' hq)
theorem r_iV3L {Y : ab_Y} {d : Nat} {σ : ab_S} {pc : Nat} {ls : List (Option Value)} {st : List Value} {Q : ab_S → Option Value → Prop} {Y2 : ab_Y} {d2 idx ci N : Nat} {a : Int} {v1 v2 v3 : Value} {Q2 : ab_S → Int → Prop} (hw : ab_mv Y.1.cls idx Y2 3) (hd : decode Y.2.1 pc = .ok (.invokevirtual idx, 3)) (hCall : C2 Y2 d2 σ (rf a :: [v1, v2, v3]) (PL Q2)) (hk : kd_ a ci N) (kk : ∀ σ' z, Q2 σ' z → R2 Y d σ' (pc + 3) ls (lgv z :: st) Q) (hqc : (vwCl[ci]?).map (fun q => q.1) = some Y2.1.cls := by rfl) (hdd : d2 + 1 ≤ d := by omega) (hst : (st.map fun v => v.category).sum ≤ 8 := by exact Nat.le_of_ble_eq_true rfl) : R2 Y d σ pc ls (v3 :: v2 :: v1 :: rf a :: st) Q := by
  obtain ⟨q, hq, hqe⟩ := Option.map_eq_some_iff.mp hqc
  exact ab_invV (k := 0) (n := 0) (k2 := 0) (n2 := 0) (As := [v1, v2, v3]) hw hd (ab_mk_get hk) hq hqe rfl hst hdd hCall (fun M' r ⟨σ', e, z, er, hq⟩ => by subst e; subst er; exact kk σ' z hq)
theorem r_iS3L {Y : ab_Y} {d : Nat} {σ : ab_S} {pc : Nat} {ls : List (Option Value)} {st : List Value} {Q : ab_S → Option Value → Prop} {Y2 : ab_Y} {d2 idx : Nat} {v1 v2 v3 : Value} {Q2 : ab_S → Int → Prop} (hw : ab_ms Y.1.cls idx Y2 3) (hd : decode Y.2.1 pc = .ok (.invokestatic idx, 3)) (hCall : C2 Y2 d2 σ [v1, v2, v3] (PL Q2)) (kk : ∀ σ' z, Q2 σ' z → R2 Y d σ' (pc + 3) ls (lgv z :: st) Q) (hdd : d2 + 1 ≤ d := by omega) (hst : (st.map fun v => v.category).sum ≤ 8 := by exact Nat.le_of_ble_eq_true rfl) : R2 Y d σ pc ls (v3 :: v2 :: v1 :: st) Q :=
  ab_invS (k := 0) (n := 0) (k2 := 0) (n2 := 0) (As := [v1, v2, v3]) hw hd rfl hst hdd hCall (fun M' r ⟨σ', e, z, er, hq⟩ => by subst e; subst er; exact kk σ' z hq)
theorem r_iN3L {Y : ab_Y} {d : Nat} {σ : ab_S} {pc : Nat} {ls : List (Option Value)} {st : List Value} {Q : ab_S → Option Value → Prop} {Y2 : ab_Y} {d2 idx : Nat} {host : String} {v1 v2 v3 : Value} {Q2 : ab_S → Int → Prop} (hw : ab_msn Y.1.cls idx Y2 3 host) (hd : decode Y.2.1 pc = .ok (.invokestatic idx, 3)) (hCall : C2 Y2 d2 σ [v1, v2, v3] (PL Q2)) (kk : ∀ σ' z, Q2 σ' z → R2 Y d σ' (pc + 3) ls (lgv z :: st) Q) (hdd : d2 + 1 ≤ d := by omega) (hst : (st.map fun v => v.category).sum ≤ 8 := by exact Nat.le_of_ble_eq_true rfl) : R2 Y d σ pc ls (v3 :: v2 :: v1 :: st) Q :=
  ab_invSN (k := 0) (n := 0) (k2 := 0) (n2 := 0) (As := [v1, v2, v3]) hw hd rfl hst hdd hCall (fun M' r ⟨σ', e, z, er, hq⟩ => by subst e; subst er; exact kk σ' z hq)
theorem r_iV4I {Y : ab_Y} {d : Nat} {σ : ab_S} {pc : Nat} {ls : List (Option Value)} {st : List Value} {Q : ab_S → Option Value → Prop} {Y2 : ab_Y} {d2 idx ci N : Nat} {a : Int} {v1 v2 v3 v4 : Value} {Q2 : ab_S → Int → Prop} (hw : ab_mv Y.1.cls idx Y2 4) (hd : decode Y.2.1 pc = .ok (.invokevirtual idx, 3)) (hCall : C2 Y2 d2 σ (rf a :: [v1, v2, v3, v4]) (PI Q2)) (hk : kd_ a ci N) (kk : ∀ σ' z, Q2 σ' z → R2 Y d σ' (pc + 3) ls (iv z :: st) Q) (hqc : (vwCl[ci]?).map (fun q => q.1) = some Y2.1.cls := by rfl) (hdd : d2 + 1 ≤ d := by omega) (hst : (st.map fun v => v.category).sum ≤ 8 := by exact Nat.le_of_ble_eq_true rfl) : R2 Y d σ pc ls (v4 :: v3 :: v2 :: v1 :: rf a :: st) Q := by
  obtain ⟨q, hq, hqe⟩ := Option.map_eq_some_iff.mp hqc
  exact ab_invV (k := 0) (n := 0) (k2 := 0) (n2 := 0) (As := [v1, v2, v3, v4]) hw hd (ab_mk_get hk) hq hqe rfl hst hdd hCall (fun M' r ⟨σ', e, z, er, hq⟩ => by subst e; subst er; exact kk σ' z hq)
theorem r_iS4I {Y : ab_Y} {d : Nat} {σ : ab_S} {pc : Nat} {ls : List (Option Value)} {st : List Value} {Q : ab_S → Option Value → Prop} {Y2 : ab_Y} {d2 idx : Nat} {v1 v2 v3 v4 : Value} {Q2 : ab_S → Int → Prop} (hw : ab_ms Y.1.cls idx Y2 4) (hd : decode Y.2.1 pc = .ok (.invokestatic idx, 3)) (hCall : C2 Y2 d2 σ [v1, v2, v3, v4] (PI Q2)) (kk : ∀ σ' z, Q2 σ' z → R2 Y d σ' (pc + 3) ls (iv z :: st) Q) (hdd : d2 + 1 ≤ d := by omega) (hst : (st.map fun v => v.category).sum ≤ 8 := by exact Nat.le_of_ble_eq_true rfl) : R2 Y d σ pc ls (v4 :: v3 :: v2 :: v1 :: st) Q :=
  ab_invS (k := 0) (n := 0) (k2 := 0) (n2 := 0) (As := [v1, v2, v3, v4]) hw hd rfl hst hdd hCall (fun M' r ⟨σ', e, z, er, hq⟩ => by subst e; subst er; exact kk σ' z hq)
theorem r_iN4I {Y : ab_Y} {d : Nat} {σ : ab_S} {pc : Nat} {ls : List (Option Value)} {st : List Value} {Q : ab_S → Option Value → Prop} {Y2 : ab_Y} {d2 idx : Nat} {host : String} {v1 v2 v3 v4 : Value} {Q2 : ab_S → Int → Prop} (hw : ab_msn Y.1.cls idx Y2 4 host) (hd : decode Y.2.1 pc = .ok (.invokestatic idx, 3)) (hCall : C2 Y2 d2 σ [v1, v2, v3, v4] (PI Q2)) (kk : ∀ σ' z, Q2 σ' z → R2 Y d σ' (pc + 3) ls (iv z :: st) Q) (hdd : d2 + 1 ≤ d := by omega) (hst : (st.map fun v => v.category).sum ≤ 8 := by exact Nat.le_of_ble_eq_true rfl) : R2 Y d σ pc ls (v4 :: v3 :: v2 :: v1 :: st) Q :=
  ab_invSN (k := 0) (n := 0) (k2 := 0) (n2 := 0) (As := [v1, v2, v3, v4]) hw hd rfl hst hdd hCall (fun M' r ⟨σ', e, z, er, hq⟩ => by subst e; subst er; exact kk σ' z hq)
theorem r_iV4V {Y : ab_Y} {d : Nat} {σ : ab_S} {pc : Nat} {ls : List (Option Value)} {st : List Value} {Q : ab_S → Option Value → Prop} {Y2 : ab_Y} {d2 idx ci N : Nat} {a : Int} {v1 v2 v3 v4 : Value} {Q2 : ab_S → Prop} (hw : ab_mv Y.1.cls idx Y2 4) (hd : decode Y.2.1 pc = .ok (.invokevirtual idx, 3)) (hCall : C2 Y2 d2 σ (rf a :: [v1, v2, v3, v4]) (PV Q2)) (hk : kd_ a ci N) (kk : ∀ σ', Q2 σ' → R2 Y d σ' (pc + 3) ls st Q) (hqc : (vwCl[ci]?).map (fun q => q.1) = some Y2.1.cls := by rfl) (hdd : d2 + 1 ≤ d := by omega) (hst : (st.map fun v => v.category).sum ≤ 8 := by exact Nat.le_of_ble_eq_true rfl) : R2 Y d σ pc ls (v4 :: v3 :: v2 :: v1 :: rf a :: st) Q := by
  obtain ⟨q, hq, hqe⟩ := Option.map_eq_some_iff.mp hqc
  exact ab_invV (k := 0) (n := 0) (k2 := 0) (n2 := 0) (As := [v1, v2, v3, v4]) hw hd (ab_mk_get hk) hq hqe rfl hst hdd hCall (fun M' r ⟨σ', e, er, hq⟩ => by subst e; subst er; exact kk σ' hq)
theorem r_iS4V {Y : ab_Y} {d : Nat} {σ : ab_S} {pc : Nat} {ls : List (Option Value)} {st : List Value} {Q : ab_S → Option Value → Prop} {Y2 : ab_Y} {d2 idx : Nat} {v1 v2 v3 v4 : Value} {Q2 : ab_S → Prop} (hw : ab_ms Y.1.cls idx Y2 4) (hd : decode Y.2.1 pc = .ok (.invokestatic idx, 3)) (hCall : C2 Y2 d2 σ [v1, v2, v3, v4] (PV Q2)) (kk : ∀ σ', Q2 σ' → R2 Y d σ' (pc + 3) ls st Q) (hdd : d2 + 1 ≤ d := by omega) (hst : (st.map fun v => v.category).sum ≤ 8 := by exact Nat.le_of_ble_eq_true rfl) : R2 Y d σ pc ls (v4 :: v3 :: v2 :: v1 :: st) Q :=
  ab_invS (k := 0) (n := 0) (k2 := 0) (n2 := 0) (As := [v1, v2, v3, v4]) hw hd rfl hst hdd hCall (fun M' r ⟨σ', e, er, hq⟩ => by subst e; subst er; exact kk σ' hq)
theorem r_iN4V {Y : ab_Y} {d : Nat} {σ : ab_S} {pc : Nat} {ls : List (Option Value)} {st : List Value} {Q : ab_S → Option Value → Prop} {Y2 : ab_Y} {d2 idx : Nat} {host : String} {v1 v2 v3 v4 : Value} {Q2 : ab_S → Prop} (hw : ab_msn Y.1.cls idx Y2 4 host) (hd : decode Y.2.1 pc = .ok (.invokestatic idx, 3)) (hCall : C2 Y2 d2 σ [v1, v2, v3, v4] (PV Q2)) (kk : ∀ σ', Q2 σ' → R2 Y d σ' (pc + 3) ls st Q) (hdd : d2 + 1 ≤ d := by omega) (hst : (st.map fun v => v.category).sum ≤ 8 := by exact Nat.le_of_ble_eq_true rfl) : R2 Y d σ pc ls (v4 :: v3 :: v2 :: v1 :: st) Q :=
  ab_invSN (k := 0) (n := 0) (k2 := 0) (n2 := 0) (As := [v1, v2, v3, v4]) hw hd rfl hst hdd hCall (fun M' r ⟨σ', e, er, hq⟩ => by subst e; subst er; exact kk σ' hq)
theorem r_iV4L {Y : ab_Y} {d : Nat} {σ : ab_S} {pc : Nat} {ls : List (Option Value)} {st : List Value} {Q : ab_S → Option Value → Prop} {Y2 : ab_Y} {d2 idx ci N : Nat} {a : Int} {v1 v2 v3 v4 : Value} {Q2 : ab_S → Int → Prop} (hw : ab_mv Y.1.cls idx Y2 4) (hd : decode Y.2.1 pc = .ok (.invokevirtual idx, 3)) (hCall : C2 Y2 d2 σ (rf a :: [v1, v2, v3, v4]) (PL Q2)) (hk : kd_ a ci N) (kk : ∀ σ' z, Q2 σ' z → R2 Y d σ' (pc + 3) ls (lgv z :: st) Q) (hqc : (vwCl[ci]?).map (fun q => q.1) = some Y2.1.cls := by rfl) (hdd : d2 + 1 ≤ d := by omega) (hst : (st.map fun v => v.category).sum ≤ 8 := by exact Nat.le_of_ble_eq_true rfl) : R2 Y d σ pc ls (v4 :: v3 :: v2 :: v1 :: rf a :: st) Q := by
  obtain ⟨q, hq, hqe⟩ := Option.map_eq_some_iff.mp hqc
  exact ab_invV (k := 0) (n := 0) (k2 := 0) (n2 := 0) (As := [v1, v2, v3, v4]) hw hd (ab_mk_get hk) hq hqe rfl hst hdd hCall (fun M' r ⟨σ', e, z, er, hq⟩ => by subst e; subst er; exact kk σ' z hq)
theorem r_iS4L {Y : ab_Y} {d : Nat} {σ : ab_S} {pc : Nat} {ls : List (Option Value)} {st : List Value} {Q : ab_S → Option Value → Prop} {Y2 : ab_Y} {d2 idx : Nat} {v1 v2 v3 v4 : Value} {Q2 : ab_S → Int → Prop} (hw : ab_ms Y.1.cls idx Y2 4) (hd : decode Y.2.1 pc = .ok (.invokestatic idx, 3)) (hCall : C2 Y2 d2 σ [v1, v2, v3, v4] (PL Q2)) (kk : ∀ σ' z, Q2 σ' z → R2 Y d σ' (pc + 3) ls (lgv z :: st) Q) (hdd : d2 + 1 ≤ d := by omega) (hst : (st.map fun v => v.category).sum ≤ 8 := by exact Nat.le_of_ble_eq_true rfl) : R2 Y d σ pc ls (v4 :: v3 :: v2 :: v1 :: st) Q :=
  ab_invS (k := 0) (n := 0) (k2 := 0) (n2 := 0) (As := [v1, v2, v3, v4]) hw hd rfl hst hdd hCall (fun M' r ⟨σ', e, z, er, hq⟩ => by subst e; subst er; exact kk σ' z hq)
theorem r_iN4L {Y : ab_Y} {d : Nat} {σ : ab_S} {pc : Nat} {ls : List (Option Value)} {st : List Value} {Q : ab_S → Option Value → Prop} {Y2 : ab_Y} {d2 idx : Nat} {host : String} {v1 v2 v3 v4 : Value} {Q2 : ab_S → Int → Prop} (hw : ab_msn Y.1.cls idx Y2 4 host) (hd : decode Y.2.1 pc = .ok (.invokestatic idx, 3)) (hCall : C2 Y2 d2 σ [v1, v2, v3, v4] (PL Q2)) (kk : ∀ σ' z, Q2 σ' z → R2 Y d σ' (pc + 3) ls (lgv z :: st) Q) (hdd : d2 + 1 ≤ d := by omega) (hst : (st.map fun v => v.category).sum ≤ 8 := by exact Nat.le_of_ble_eq_true rfl) : R2 Y d σ pc ls (v4 :: v3 :: v2 :: v1 :: st) Q :=
  ab_invSN (k := 0) (n := 0) (k2 := 0) (n2 := 0) (As := [v1, v2, v3, v4]) hw hd rfl hst hdd hCall (fun M' r ⟨σ', e, z, er, hq⟩ => by subst e; subst er; exact kk σ' z hq)
