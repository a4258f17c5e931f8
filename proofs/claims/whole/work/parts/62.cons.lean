/-! constructors: memory is M ++ L, and L is known -/
theorem m_get {M L : ab_M} {a j : Nat} {c : ab_C} (ha : M.length = a) (h : L[j]? = some c) : (M ++ L)[a + j]? = some c := by
  rw [List.getElem?_append_right (by omega), show a + j - M.length = j by omega]
  exact h
theorem m_set {M L : ab_M} {a j : Nat} {c : ab_C} (ha : M.length = a) : (M ++ L).set (a + j) c = M ++ L.set j c := by
  rw [List.set_append_right _ _ (by omega), show a + j - M.length = j by omega]
theorem m_len {M L : ab_M} {a : Nat} (ha : M.length = a) : (M ++ L).length = a + L.length := by rw [List.length_append, ha]
theorem n_mem {Y : ab_Y} {d k n : Nat} {M : ab_M} {pc : Nat} {ls : List (Option Value)} {st : List Value} {Q : ab_M → Option Value → Prop} {M' : ab_M} (h : M = M') (kk : ab_Run Y d k n M' pc ls st Q) : ab_Run Y d k n M pc ls st Q := by rw [h]; exact kk
theorem n_istore {Y : ab_Y} {d k n : Nat} {M : ab_M} {pc : Nat} {ls : List (Option Value)} {st : List Value} {Q : ab_M → Option Value → Prop} {q : Fin 4} {x : Int32} {ls' : List (Option Value)} (hd : decode Y.2.1 pc = .ok (.istore_n q, 1)) (hn : (q : Nat) < Y.2.2.1) (hl : ab_set ls (q : Nat) (.int x) = ls') (kk : ab_Run Y d k n M (pc + 1) ls' st Q) : ab_Run Y d k n M pc ls (.int x :: st) Q := ab_istore_n hd hn (by rw [hl]; exact kk)
theorem n_iinc {Y : ab_Y} {d k n : Nat} {M : ab_M} {pc : Nat} {ls : List (Option Value)} {st : List Value} {Q : ab_M → Option Value → Prop} {i : Nat} {z : Int} {x y : Int32} {ls' : List (Option Value)} (hd : decode Y.2.1 pc = .ok (.iinc i z, 3)) (hl : ls[i]? = some (some (.int x))) (hn : i < Y.2.2.1) (hy : x + Int32.ofInt z = y) (hs : ab_set ls i (.int y) = ls') (kk : ab_Run Y d k n M (pc + 3) ls' st Q) : ab_Run Y d k n M pc ls st Q := ab_iinc hd hl hn (by rw [hy, hs]; exact kk)
theorem n_newint {Y : ab_Y} {d k n : Nat} {M : ab_M} {pc : Nat} {ls : List (Option Value)} {st : List Value} {Q : ab_M → Option Value → Prop} {a : Nat} {L : List ab_C} {N r : Nat} {x : Int32} {L' : List ab_C} (ha : M.length = a) (w1 : Cond.arrayClass .int ∈ ab_gw) (hd : decode Y.2.1 pc = .ok (.newarray .int, 2)) (hx : ¬ x < 0) (hN : x.toNatClampNeg = N) (hsm : N ≤ 100000) (hr : r = a + L.length) (hL : L' = L ++ [(10, List.replicate N (.int 0))]) (kk : ab_Run Y d k n (M ++ L') (pc + 2) ls (.ref r :: st) Q) : ab_Run Y d (k + 1) (n + N) (M ++ L) pc ls (.int x :: st) Q :=
  ab_newint w1 hd hx hN hsm (hr.trans (m_len ha).symm) (by rw [List.append_assoc, ← hL]; exact kk)
theorem n_newbool {Y : ab_Y} {d k n : Nat} {M : ab_M} {pc : Nat} {ls : List (Option Value)} {st : List Value} {Q : ab_M → Option Value → Prop} {a : Nat} {L : List ab_C} {N r : Nat} {x : Int32} {L' : List ab_C} (ha : M.length = a) (w1 : Cond.arrayClass .boolean ∈ ab_gw) (hd : decode Y.2.1 pc = .ok (.newarray .boolean, 2)) (hx : ¬ x < 0) (hN : x.toNatClampNeg = N) (hsm : N ≤ 100000) (hr : r = a + L.length) (hL : L' = L ++ [(11, List.replicate N (.int 0))]) (kk : ab_Run Y d k n (M ++ L') (pc + 2) ls (.ref r :: st) Q) : ab_Run Y d (k + 1) (n + N) (M ++ L) pc ls (.int x :: st) Q :=
  ab_newbool w1 hd hx hN hsm (hr.trans (m_len ha).symm) (by rw [List.append_assoc, ← hL]; exact kk)
theorem n_newref {Y : ab_Y} {d k n : Nat} {M : ab_M} {pc : Nat} {ls : List (Option Value)} {st : List Value} {Q : ab_M → Option Value → Prop} {a : Nat} {L : List ab_C} {N r idx kd : Nat} {x : Int32} {L' : List ab_C} (ha : M.length = a) (h12 : 12 ≤ kd) (h15 : kd < 15) (w1 : Cond.classLink Y.1.cls idx (ab_cn kd) ∈ ab_gw) (hd : decode Y.2.1 pc = .ok (.anewarray idx, 3)) (hx : ¬ x < 0) (hN : x.toNatClampNeg = N) (hsm : N ≤ 100000) (hr : r = a + L.length) (hL : L' = L ++ [(kd, List.replicate N .null)]) (kk : ab_Run Y d k n (M ++ L') (pc + 3) ls (.ref r :: st) Q) : ab_Run Y d (k + 1) (n + N) (M ++ L) pc ls (.int x :: st) Q :=
  ab_newref h12 h15 w1 hd hx hN hsm (hr.trans (m_len ha).symm) (by rw [List.append_assoc, ← hL]; exact kk)
theorem n_newgrid {Y : ab_Y} {d k n : Nat} {M : ab_M} {pc : Nat} {ls : List (Option Value)} {st : List Value} {Q : ab_M → Option Value → Prop} {a : Nat} {L : List ab_C} {N K r idx : Nat} {x y : Int32} {L' : List ab_C} (ha : M.length = a) (w1 : Cond.classLink Y.1.cls idx ("[" ++ (FieldType.array .int).toString) ∈ ab_gw) (w2 : Cond.arrayClass .int ∈ ab_gw) (hd : decode Y.2.1 pc = .ok (.multianewarray idx 2, 4)) (hx : ¬ x < 0) (hN : x.toNatClampNeg = N) (hy : ¬ y < 0) (hK9 : y.toNatClampNeg = K) (hsm : N ≤ 1000) (hsk : K ≤ 1000) (hr : r = a + L.length) (hL : L' = L ++ ((15, (List.range N).map (fun i => .ref (r + 1 + i))) :: List.replicate N (10, List.replicate K (.int 0)))) (kk : ab_Run Y d k n (M ++ L') (pc + 4) ls (.ref r :: st) Q) : ab_Run Y d (k + (1 + N)) (n + (N + N * K)) (M ++ L) pc ls (.int y :: .int x :: st) Q :=
  ab_newgrid w1 w2 hd hx hN hy hK9 hsm hsk (hr.trans (m_len ha).symm) (by rw [List.append_assoc, ← hL]; exact kk)
theorem n_new {Y : ab_Y} {d k n : Nat} {M : ab_M} {pc : Nat} {ls : List (Option Value)} {st : List Value} {Q : ab_M → Option Value → Prop} {a : Nat} {L : List ab_C} {ci idx r : Nat} {q : vw_C} {fs : List Value} {L' : List ab_C} (ha : M.length = a) (hq : vwCl[ci]? = some q) (w1 : Cond.classLink Y.1.cls idx q.1 ∈ ab_gw) (w2 : Cond.instantiable q.1 q.2.2 ∈ ab_gw) (w3 : Cond.initialized q.1 ∈ ab_gw) (hd : decode Y.2.1 pc = .ok (.new idx, 3)) (hfs : ∀ (j : Nat) (ty : FieldType), j < q.2.2 → parseFieldDescriptor (q.2.1 j).2.2.1 = some ty → fs[j]? = some (defaultValue ty)) (hnr : ∀ v ∈ fs, ∀ r, v ≠ .ref r) (hf2 : fs.length = q.2.2) (hr : r = a + L.length) (hL : L' = L ++ [(ci, fs)]) (kk : ab_Run Y d k n (M ++ L') (pc + 3) ls (.ref r :: st) Q) : ab_Run Y d (k + 1) (n + q.2.2) (M ++ L) pc ls st Q :=
  ab_new hq w1 w2 w3 hd hfs hnr hf2 (by rw [List.append_assoc, ← hL, m_len ha, ← hr]; exact kk)
theorem n_putF {Y : ab_Y} {d k n : Nat} {M : ab_M} {pc : Nat} {ls : List (Option Value)} {st : List Value} {Q : ab_M → Option Value → Prop} {a : Nat} {L : List ab_C} {ci j jf idx r : Nat} {fs : List Value} {v : Value} {ty : FieldType} {L' : List ab_C} (ha : M.length = a) (hr : r = a + j) (hc : L[j]? = some (ci, fs)) (hL : L' = L.set j (ci, fs.set jf v)) (hl : jf < fs.length) (hf : ab_fp Y.1.cls idx ci jf true ty) (hin2 : Y.1.name = "<init>") (hd : decode Y.2.1 pc = .ok (.putfield idx, 3)) (hn : ∀ bs b, narrow ty (ab_v bs b v) = ab_v bs b v ∧ fits ty (ab_v bs b v) = true) (kk : ab_Run Y d k n (M ++ L') (pc + 3) ls st Q) : ab_Run Y d k n (M ++ L) pc ls (v :: .ref r :: st) Q := by
  subst hr
  exact ab_putfinal hf hin2 hd (m_get ha hc) hl hn (by rw [m_set ha, ← hL]; exact kk)
theorem n_put {Y : ab_Y} {d k n : Nat} {M : ab_M} {pc : Nat} {ls : List (Option Value)} {st : List Value} {Q : ab_M → Option Value → Prop} {a : Nat} {L : List ab_C} {ci j jf idx r : Nat} {fs : List Value} {v : Value} {ty : FieldType} {L' : List ab_C} (ha : M.length = a) (hr : r = a + j) (hc : L[j]? = some (ci, fs)) (hL : L' = L.set j (ci, fs.set jf v)) (hl : jf < fs.length) (hf : ab_fp Y.1.cls idx ci jf false ty) (hd : decode Y.2.1 pc = .ok (.putfield idx, 3)) (hn : ∀ bs b, narrow ty (ab_v bs b v) = ab_v bs b v ∧ fits ty (ab_v bs b v) = true) (kk : ab_Run Y d k n (M ++ L') (pc + 3) ls st Q) : ab_Run Y d k n (M ++ L) pc ls (v :: .ref r :: st) Q := by
  subst hr
  exact ab_putfield hf hd (m_get ha hc) hl hn (by rw [m_set ha, ← hL]; exact kk)
theorem n_get {Y : ab_Y} {d k n : Nat} {M : ab_M} {pc : Nat} {ls : List (Option Value)} {st : List Value} {Q : ab_M → Option Value → Prop} {a : Nat} {L : List ab_C} {ci j jf idx r : Nat} {fs : List Value} {v : Value} (ha : M.length = a) (hr : r = a + j) (hc : L[j]? = some (ci, fs)) (hv : fs[jf]? = some v) (hf : ab_fl Y.1.cls idx ci jf) (hd : decode Y.2.1 pc = .ok (.getfield idx, 3)) (kk : ab_Run Y d k n (M ++ L) (pc + 3) ls (v :: st) Q) : ab_Run Y d k n (M ++ L) pc ls (.ref r :: st) Q := by
  subst hr
  exact ab_getfield hf hd (m_get ha hc) hv kk
theorem n_ix {x : Int32} {i N : Nat} (h1 : ¬ x < 0) (h2 : x.toNatClampNeg = i) (h3 : i < N) : ab_ix x N i := ⟨h1, h2, h3⟩
theorem n_aas {Y : ab_Y} {d k n : Nat} {M : ab_M} {pc : Nat} {ls : List (Option Value)} {st : List Value} {Q : ab_M → Option Value → Prop} {a : Nat} {L : List ab_C} {kd j jv i r rv ci : Nat} {x : Int32} {vs fs : List Value} {q : vw_C} {L' : List ab_C} (ha : M.length = a) (h12 : 12 ≤ kd) (h15 : kd < 15) (hr : r = a + j) (hrv : rv = a + jv) (hc : L[j]? = some (kd, vs)) (hcv : L[jv]? = some (ci, fs)) (hq : vwCl[ci]? = some q) (hqc : q.1 = ab_cn kd) (hL : L' = L.set j (kd, vs.set i (.ref rv))) (hi : ¬ x < 0 ∧ x.toNatClampNeg = i ∧ i < vs.length) (hd : decode Y.2.1 pc = .ok (.aastore, 1)) (kk : ab_Run Y d k n (M ++ L') (pc + 1) ls st Q) : ab_Run Y d k n (M ++ L) pc ls (.ref rv :: .int x :: .ref r :: st) Q := by
  subst hr
  subst hrv
  exact ab_aastore h12 h15 hd (m_get ha hc) hi (m_get ha hcv) hq hqc (by rw [m_set ha, ← hL]; exact kk)
theorem n_ias {Y : ab_Y} {d k n : Nat} {M : ab_M} {pc : Nat} {ls : List (Option Value)} {st : List Value} {Q : ab_M → Option Value → Prop} {a : Nat} {L : List ab_C} {j i r : Nat} {x y : Int32} {vs : List Value} {L' : List ab_C} (ha : M.length = a) (hr : r = a + j) (hc : L[j]? = some (10, vs)) (hL : L' = L.set j (10, vs.set i (.int y))) (hi : ¬ x < 0 ∧ x.toNatClampNeg = i ∧ i < vs.length) (hd : decode Y.2.1 pc = .ok (.iastore, 1)) (kk : ab_Run Y d k n (M ++ L') (pc + 1) ls st Q) : ab_Run Y d k n (M ++ L) pc ls (.int y :: .int x :: .ref r :: st) Q := by
  subst hr
  exact ab_iastore hd (m_get ha hc) hi (by rw [m_set ha, ← hL]; exact kk)
theorem n_init {Y : ab_Y} {d k n : Nat} {M : ab_M} {pc : Nat} {ls : List (Option Value)} {st : List Value} {Q : ab_M → Option Value → Prop} {a : Nat} {L : List ab_C} {Y2 : ab_Y} {d2 k2 n2 idx r : Nat} {cd : ab_C} {cC : Nat → List ab_C} {L0 L' : List ab_C} (ha : M.length = a) (hC : ∀ (M : ab_M) (a : Nat), M.length = a → ab_Call Y2 d2 k2 n2 (M ++ [cd]) [.ref a] (fun M' x => x = none ∧ M' = M ++ cC a)) (hL : L = L0 ++ [cd]) (hr : r = a + L0.length) (hL' : L' = L0 ++ cC r) (hw : ab_mi Y.1.cls idx Y2 0) (hd : decode Y.2.1 pc = .ok (.invokespecial idx, 3)) (hst : (st.map fun v => v.category).sum ≤ 8) (hdd : d2 + 1 ≤ d) (kk : ab_Run Y d k n (M ++ L') (pc + 3) ls st Q) : ab_Run Y d (k2 + k) (n2 + n) (M ++ L) pc ls (.ref r :: st) Q := by
  have h := hC (M ++ L0) r (by rw [m_len ha, hr])
  rw [List.append_assoc, ← hL] at h
  refine ab_invI (As := []) hw hd rfl hst hdd h (fun M' x hx => ?_)
  obtain ⟨rfl, rfl⟩ := hx
  rw [List.append_assoc, ← hL']
  exact kk
set_option maxRecDepth 20000 in
theorem c_J7_fill {M : ab_M} {x : Nat} {v : Int32} {vs : List Value} (hc : M[x]? = some (10, vs)) (hl : vs.length ≤ 1000) : ab_Call YJ7_fill_53178 1 0 0 M [.ref x, .int v] (fun M' r => r = none ∧ M' = M.set x (10, List.replicate vs.length (.int v))) := by
  refine ab_Call.ofF (by decide +kernel) (Nat.le_of_ble_eq_true rfl) ?_
  have hxl : x < M.length := (List.getElem?_eq_some_iff.mp hc).1
  refine ab_iconst dJ7_fill_53178_0 ?_
  refine n_istore (ls' := [some (.ref x), some (.int v), some (iv 0), none]) dJ7_fill_53178_1 (by decide) rfl ?_
  refine ab_aload_n dJ7_fill_53178_2 rfl ?_
  refine ab_alen dJ7_fill_53178_3 hc (by omega) (by omega) ?_
  refine n_istore (ls' := [some (.ref x), some (.int v), some (iv 0), some (iv vs.length)]) dJ7_fill_53178_4 (by decide) rfl ?_
  suffices hloop : ∀ (f j : Nat) (ws : List Value), j + f = vs.length → ws.length = vs.length → (∀ i : Nat, i < j → ws[i]? = some (.int v)) → ab_Run YJ7_fill_53178 1 0 0 (M.set x (10, ws)) 5 [some (.ref x), some (.int v), some (iv j), some (iv vs.length)] [] (fun M' r => r = none ∧ M' = M.set x (10, List.replicate vs.length (.int v))) from by
    have h0 := hloop vs.length 0 vs (by omega) rfl (fun i hi => by omega)
    rw [show M.set x (10, vs) = M by
      apply List.ext_getElem?
      intro i
      by_cases e : x = i
      · subst e; rw [List.getElem?_set_self hxl, hc]
      · rw [List.getElem?_set_ne e]] at h0
    exact h0
  intro f
  induction f with
  | zero =>
    intro j ws e1 e2 e3
    have e4 : j = vs.length := by omega
    subst e4
    refine ab_iload_n dJ7_fill_53178_5 rfl ?_
    refine ab_iload_n dJ7_fill_53178_6 rfl ?_
    refine ab_icmp_ge (tgt := 20) dJ7_fill_53178_7 (by decide) (fun _ => ?_) (fun h => absurd (Int32.le_refl _) h)
    refine ab_return (st := []) dJ7_fill_53178_20 rfl ⟨rfl, ?_⟩
    have e5 : ws = List.replicate vs.length (.int v) := by
      apply List.ext_getElem?
      intro i
      rw [List.getElem?_replicate]
      split
      · rename_i h; exact e3 i h
      · rename_i h; exact List.getElem?_eq_none (by omega)
    rw [e5]
  | succ f ih =>
    intro j ws e1 e2 e3
    have hcx : (M.set x (10, ws))[x]? = some (10, ws) := List.getElem?_set_self hxl
    have hjl : ¬ Int32.ofInt ((vs.length : Nat) : Int) ≤ Int32.ofInt ((j : Nat) : Int) := by
      rw [iv_inj_le (by omega) (by omega) (by omega) (by omega)]
      omega
    refine ab_iload_n dJ7_fill_53178_5 rfl ?_
    refine ab_iload_n dJ7_fill_53178_6 rfl ?_
    refine ab_icmp_ge (tgt := 20) dJ7_fill_53178_7 (by decide) (fun h => absurd h hjl) (fun _ => ?_)
    refine ab_aload_n dJ7_fill_53178_10 rfl ?_
    refine ab_iload_n dJ7_fill_53178_11 rfl ?_
    refine ab_iload_n dJ7_fill_53178_12 rfl ?_
    refine ab_iastore dJ7_fill_53178_13 hcx (by
      have h9 := iv_ix (x := (j : Int)) (n := ws.length) (by omega) (by omega) (by omega)
      rw [Int.toNat_natCast] at h9
      exact h9) ?_
    refine n_iinc (y := Int32.ofInt ((j + 1 : Nat) : Int)) (ls' := [some (.ref x), some (.int v), some (iv ((j + 1 : Nat) : Int)), some (iv vs.length)]) dJ7_fill_53178_14 rfl (by decide) (by rw [← Int32.ofInt_add]; rfl) rfl ?_
    refine ab_goto (tgt := 5) dJ7_fill_53178_17 (by decide) ?_
    rw [List.set_set]
    refine ih (j + 1) (ws.set j (.int v)) (by omega) (by rw [List.length_set]; exact e2) (fun i hi => ?_)
    by_cases e : i = j
    · subst e
      exact List.getElem?_set_self (by omega)
    · rw [List.getElem?_set_ne (by omega)]
      exact e3 i (by omega)
theorem n_fill {Y : ab_Y} {d k n : Nat} {M : ab_M} {pc : Nat} {ls : List (Option Value)} {st : List Value} {Q : ab_M → Option Value → Prop} {a : Nat} {L : List ab_C} {j N r idx : Nat} {v : Int32} {vs : List Value} {L' : List ab_C} (ha : M.length = a) (hr : r = a + j) (hc : L[j]? = some (10, vs)) (hN : vs.length = N) (hL : L' = L.set j (10, List.replicate N (.int v))) (hsm : N ≤ 1000) (hw : ab_ms Y.1.cls idx YJ7_fill_53178 2) (hd : decode Y.2.1 pc = .ok (.invokestatic idx, 3)) (hst : (st.map fun v => v.category).sum ≤ 8) (hdd : 2 ≤ d) (kk : ab_Run Y d k n (M ++ L') (pc + 3) ls st Q) : ab_Run Y d (0 + k) (0 + n) (M ++ L) pc ls (.int v :: .ref r :: st) Q := by
  subst hr
  subst hN
  refine ab_invS (As := [.ref (a + j), .int v]) hw hd rfl hst hdd (c_J7_fill (m_get ha hc) hsm) (fun M' x hx => ?_)
  obtain ⟨rfl, rfl⟩ := hx
  rw [m_set ha, ← hL]
  exact kk
theorem df_X0 : ∀ (j : Nat) (ty : FieldType), j < 8 → parseFieldDescriptor (TX0 j).2.2.1 = some ty → ([.null, .null, .null, .null, .null, .null, .int 0, .int 0] : List Value)[j]? = some (defaultValue ty) := by
  intro j ty hj hp
  rw [tyX0_ok j hj] at hp
  have e := Option.some.inj hp
  subst e
  rcases (show j = 0 ∨ j = 1 ∨ j = 2 ∨ j = 3 ∨ j = 4 ∨ j = 5 ∨ j = 6 ∨ j = 7 by omega) with rfl | rfl | rfl | rfl | rfl | rfl | rfl | rfl <;> rfl
theorem dn_X0 : ∀ v ∈ ([.null, .null, .null, .null, .null, .null, .int 0, .int 0] : List Value), ∀ r, v ≠ .ref r := by
  intro v hv r e
  subst e
  simp only [List.mem_cons, List.not_mem_nil, or_false, reduceCtorEq, or_self] at hv
theorem df_X1 : ∀ (j : Nat) (ty : FieldType), j < 4 → parseFieldDescriptor (TX1 j).2.2.1 = some ty → ([.null, .null, .null, .null] : List Value)[j]? = some (defaultValue ty) := by
  intro j ty hj hp
  rw [tyX1_ok j hj] at hp
  have e := Option.some.inj hp
  subst e
  rcases (show j = 0 ∨ j = 1 ∨ j = 2 ∨ j = 3 by omega) with rfl | rfl | rfl | rfl <;> rfl
theorem dn_X1 : ∀ v ∈ ([.null, .null, .null, .null] : List Value), ∀ r, v ≠ .ref r := by
  intro v hv r e
  subst e
  simp only [List.mem_cons, List.not_mem_nil, or_false, reduceCtorEq, or_self] at hv
theorem df_X2 : ∀ (j : Nat) (ty : FieldType), j < 2 → parseFieldDescriptor (TX2 j).2.2.1 = some ty → ([.null, .int 0] : List Value)[j]? = some (defaultValue ty) := by
  intro j ty hj hp
  rw [tyX2_ok j hj] at hp
  have e := Option.some.inj hp
  subst e
  rcases (show j = 0 ∨ j = 1 by omega) with rfl | rfl <;> rfl
theorem dn_X2 : ∀ v ∈ ([.null, .int 0] : List Value), ∀ r, v ≠ .ref r := by
  intro v hv r e
  subst e
  simp only [List.mem_cons, List.not_mem_nil, or_false, reduceCtorEq, or_self] at hv
theorem df_X3 : ∀ (j : Nat) (ty : FieldType), j < 3 → parseFieldDescriptor (TX3 j).2.2.1 = some ty → ([.null, .null, .int 0] : List Value)[j]? = some (defaultValue ty) := by
  intro j ty hj hp
  rw [tyX3_ok j hj] at hp
  have e := Option.some.inj hp
  subst e
  rcases (show j = 0 ∨ j = 1 ∨ j = 2 by omega) with rfl | rfl | rfl <;> rfl
theorem dn_X3 : ∀ v ∈ ([.null, .null, .int 0] : List Value), ∀ r, v ≠ .ref r := by
  intro v hv r e
  subst e
  simp only [List.mem_cons, List.not_mem_nil, or_false, reduceCtorEq, or_self] at hv
theorem df_X4 : ∀ (j : Nat) (ty : FieldType), j < 9 → parseFieldDescriptor (TX4 j).2.2.1 = some ty → ([.null, .null, .null, .null, .null, .null, .int 0, .int 0, .int 0] : List Value)[j]? = some (defaultValue ty) := by
  intro j ty hj hp
  rw [tyX4_ok j hj] at hp
  have e := Option.some.inj hp
  subst e
  rcases (show j = 0 ∨ j = 1 ∨ j = 2 ∨ j = 3 ∨ j = 4 ∨ j = 5 ∨ j = 6 ∨ j = 7 ∨ j = 8 by omega) with rfl | rfl | rfl | rfl | rfl | rfl | rfl | rfl | rfl <;> rfl
theorem dn_X4 : ∀ v ∈ ([.null, .null, .null, .null, .null, .null, .int 0, .int 0, .int 0] : List Value), ∀ r, v ≠ .ref r := by
  intro v hv r e
  subst e
  simp only [List.mem_cons, List.not_mem_nil, or_false, reduceCtorEq, or_self] at hv
theorem df_X5 : ∀ (j : Nat) (ty : FieldType), j < 4 → parseFieldDescriptor (TX5 j).2.2.1 = some ty → ([.null, .null, .null, .int 0] : List Value)[j]? = some (defaultValue ty) := by
  intro j ty hj hp
  rw [tyX5_ok j hj] at hp
  have e := Option.some.inj hp
  subst e
  rcases (show j = 0 ∨ j = 1 ∨ j = 2 ∨ j = 3 by omega) with rfl | rfl | rfl | rfl <;> rfl
theorem dn_X5 : ∀ v ∈ ([.null, .null, .null, .int 0] : List Value), ∀ r, v ≠ .ref r := by
  intro v hv r e
  subst e
  simp only [List.mem_cons, List.not_mem_nil, or_false, reduceCtorEq, or_self] at hv
theorem df_X6 : ∀ (j : Nat) (ty : FieldType), j < 3 → parseFieldDescriptor (TX6 j).2.2.1 = some ty → ([.null, .null, .null] : List Value)[j]? = some (defaultValue ty) := by
  intro j ty hj hp
  rw [tyX6_ok j hj] at hp
  have e := Option.some.inj hp
  subst e
  rcases (show j = 0 ∨ j = 1 ∨ j = 2 by omega) with rfl | rfl | rfl <;> rfl
theorem dn_X6 : ∀ v ∈ ([.null, .null, .null] : List Value), ∀ r, v ≠ .ref r := by
  intro v hv r e
  subst e
  simp only [List.mem_cons, List.not_mem_nil, or_false, reduceCtorEq, or_self] at hv
theorem df_X7 : ∀ (j : Nat) (ty : FieldType), j < 4 → parseFieldDescriptor (TX7 j).2.2.1 = some ty → ([.null, .null, .null, .int 0] : List Value)[j]? = some (defaultValue ty) := by
  intro j ty hj hp
  rw [tyX7_ok j hj] at hp
  have e := Option.some.inj hp
  subst e
  rcases (show j = 0 ∨ j = 1 ∨ j = 2 ∨ j = 3 by omega) with rfl | rfl | rfl | rfl <;> rfl
theorem dn_X7 : ∀ v ∈ ([.null, .null, .null, .int 0] : List Value), ∀ r, v ≠ .ref r := by
  intro v hv r e
  subst e
  simp only [List.mem_cons, List.not_mem_nil, or_false, reduceCtorEq, or_self] at hv
theorem df_X8 : ∀ (j : Nat) (ty : FieldType), j < 8 → parseFieldDescriptor (TX8 j).2.2.1 = some ty → ([.null, .null, .null, .null, .null, .null, .null, .null] : List Value)[j]? = some (defaultValue ty) := by
  intro j ty hj hp
  rw [tyX8_ok j hj] at hp
  have e := Option.some.inj hp
  subst e
  rcases (show j = 0 ∨ j = 1 ∨ j = 2 ∨ j = 3 ∨ j = 4 ∨ j = 5 ∨ j = 6 ∨ j = 7 by omega) with rfl | rfl | rfl | rfl | rfl | rfl | rfl | rfl <;> rfl
theorem dn_X8 : ∀ v ∈ ([.null, .null, .null, .null, .null, .null, .null, .null] : List Value), ∀ r, v ≠ .ref r := by
  intro v hv r e
  subst e
  simp only [List.mem_cons, List.not_mem_nil, or_false, reduceCtorEq, or_self] at hv
theorem df_X9 : ∀ (j : Nat) (ty : FieldType), j < 37 → parseFieldDescriptor (TX9 j).2.2.1 = some ty → ([.null, .null, .null, .null, .null, .null, .null, .null, .int 0, .int 0, .null, .null, .int 0, .null, .null, .int 0, .null, .null, .null, .null, .null, .null, .null, .int 0, .null, .int 0, .int 0, .int 0, .null, .null, .null, .int 0, .null, .null, .null, .int 0, .int 0] : List Value)[j]? = some (defaultValue ty) := by
  intro j ty hj hp
  rw [tyX9_ok j hj] at hp
  have e := Option.some.inj hp
  subst e
  rcases (show j = 0 ∨ j = 1 ∨ j = 2 ∨ j = 3 ∨ j = 4 ∨ j = 5 ∨ j = 6 ∨ j = 7 ∨ j = 8 ∨ j = 9 ∨ j = 10 ∨ j = 11 ∨ j = 12 ∨ j = 13 ∨ j = 14 ∨ j = 15 ∨ j = 16 ∨ j = 17 ∨ j = 18 ∨ j = 19 ∨ j = 20 ∨ j = 21 ∨ j = 22 ∨ j = 23 ∨ j = 24 ∨ j = 25 ∨ j = 26 ∨ j = 27 ∨ j = 28 ∨ j = 29 ∨ j = 30 ∨ j = 31 ∨ j = 32 ∨ j = 33 ∨ j = 34 ∨ j = 35 ∨ j = 36 by omega) with rfl | rfl | rfl | rfl | rfl | rfl | rfl | rfl | rfl | rfl | rfl | rfl | rfl | rfl | rfl | rfl | rfl | rfl | rfl | rfl | rfl | rfl | rfl | rfl | rfl | rfl | rfl | rfl | rfl | rfl | rfl | rfl | rfl | rfl | rfl | rfl | rfl <;> rfl
theorem dn_X9 : ∀ v ∈ ([.null, .null, .null, .null, .null, .null, .null, .null, .int 0, .int 0, .null, .null, .int 0, .null, .null, .int 0, .null, .null, .null, .null, .null, .null, .null, .int 0, .null, .int 0, .int 0, .int 0, .null, .null, .null, .int 0, .null, .null, .null, .int 0, .int 0] : List Value), ∀ r, v ≠ .ref r := by
  intro v hv r e
  subst e
  simp only [List.mem_cons, List.not_mem_nil, or_false, reduceCtorEq, or_self] at hv
