/-! arraycopy, and what makes cells -/
def ab_cpy (us vs : List Value) (sp dp m : Nat) : List Value := (List.range vs.length).map (fun j => if dp ≤ j ∧ j < dp + m then us.getD (sp + (j - dp)) .null else vs.getD j .null)
def ab_i (v : Value) : Int32 := match v with
  | .int x => x
  | _ => 0
def ab_ints (vs : List Value) : Prop := ∀ v ∈ vs, ∃ x : Int32, v = .int x
theorem ab_ints_get {vs : List Value} (h : ab_ints vs) {j : Nat} (hj : j < vs.length) (bs b : Nat) : ab_v bs b (vs.getD j .null) = .int (ab_i (vs.getD j .null)) := by
  rw [List.getD_eq_getElem?_getD, List.getElem?_eq_getElem hj]
  obtain ⟨x, hx⟩ := h _ (List.getElem_mem hj)
  show ab_v bs b vs[j] = .int (ab_i vs[j])
  rw [hx]
  rfl
section AbMake
variable {Y : ab_Y} {d k n : Nat} {M : ab_M} {pc : Nat} {ls : List (Option Value)} {st : List Value} {Q : ab_M → Option Value → Prop}
set_option maxHeartbeats 1000000 in
theorem ab_arraycopy {a0 a idx sn dn mn : Nat} {us vs : List Value} {sp dp mm : Int32} (w1 : Cond.methodLink Y.1.cls idx arraycopyName ∈ ab_gw) (w2 : Cond.native arraycopyName ∈ ab_gw) (w3 : Cond.static arraycopyName ∈ ab_gw) (w4 : Cond.initialized "java/lang/System" ∈ ab_gw) (hd : decode Y.2.1 pc = .ok (.invokestatic idx, 3))
    (hc0 : M[a0]? = some (10, us)) (hc : M[a]? = some (10, vs)) (hus : ab_ints us) (hvs : ab_ints vs) (h1 : ¬ sp < 0) (h2 : ¬ dp < 0) (h3 : ¬ mm < 0) (e1 : sp.toNatClampNeg = sn) (e2 : dp.toNatClampNeg = dn) (e3 : mm.toNatClampNeg = mn) (h4 : sn + mn ≤ us.length) (h5 : dn + mn ≤ vs.length) (hdd : 1 ≤ d) (hst : (st.map fun v => v.category).sum ≤ 8)
    (kk : ab_Run Y d k n (M.set a (10, ab_cpy us vs sn dn mn)) (pc + 3) ls st Q) : ab_Run Y d k n M pc ls (.int mm :: .int dp :: .ref a :: .int sp :: .ref a0 :: st) Q := by
  intro p l e R s m args below meth c D dA bs b tc ts H locs cells slots arr Z hC hH hS hL hr
  subst e1; subst e2; subst e3
  have hb3 := hC.2.2.1
  have hts := hC.1.2.2.2.2
  have h8 := ab_rest (st := st) (m := m) (pc := pc) (arr := arr) (st0 := []) (bs := bs) (b := b) hst
  have g0 := (hH.2.2.2 a0 _ hc0).2.2 (Nat.le_refl 10) (by show 10 < 16; omega)
  have g1 := (hH.2.2.2 a _ hc).2.2 (Nat.le_refl 10) (by show 10 < 16; omega)
  have f0 : H[bs + a0]? = some (vp_cell (dA 0) (us.length, .inl (fun j => ab_i (us.getD j .null)))) := by
    rw [g0, vp_cell_i]
    exact congrArg some (ab_arrV_congr fun j hj => ab_ints_get hus hj bs b)
  have f1 : H[bs + a]? = some (vp_cell (dA 0) (vs.length, .inl (fun j => ab_i (vs.getD j .null)))) := by
    rw [g1, vp_cell_i]
    exact congrArg some (ab_arrV_congr fun j hj => ab_ints_get hvs hj bs b)
  show W p l e R s m args below meth c H locs cells slots Z (F0 m pc arr (.int mm :: .int dp :: .ref (ab_ad bs b a) :: .int sp :: .ref (ab_ad bs b a0) :: st.map (ab_v bs b)))
  rw [hH.ad hc (by show 10 ≠ 16; omega), hH.ad hc0 (by show 10 ≠ 16; omega)]
  have nn : ∀ z : Int32, ¬ z < 0 → z.toInt = (z.toNatClampNeg : Int) := by
    intro z hz
    have hz0 : (0 : Int) ≤ z.toInt := by
      have := Int32.not_lt.mp hz
      simpa using Int32.le_iff_toInt_le.mp this
    show z.toInt = ((z.toInt.toNat : Nat) : Int)
    omega
  intro T hT X
  obtain ⟨-, k0, hk0, cm0, hkk0⟩ := (hC.2.1.1.2 0 _ rfl).1 us.length (fun j => .int (ab_i (us.getD j .null)))
  obtain ⟨-, k1, hk1, cm1, hkk1⟩ := (hC.2.1.1.2 0 _ rfl).1 vs.length (fun j => .int (ab_i (vs.getD j .null)))
  obtain ⟨vm', X', step⟩ := X.arraycopy hC.1.1 hC.1.2.2.2.1 (hts _ w1) (hts _ w2) (hts _ w3) (hts _ w4) (src := bs + a0) (dst := bs + a) (cs := vp_cell (dA 0) (us.length, .inl (fun j => ab_i (us.getD j .null)))) (cd := vp_cell (dA 0) (vs.length, .inl (fun j => ab_i (vs.getD j .null)))) (srcPos := sp) (destPos := dp) (n := mm) (by rw [hT]; exact f0) (by rw [hT]; exact f1)
    (fun _ h => by cases h) (fun _ h => by cases h) (fun h => by cases h) (fun h => by cases h) hk0 hk1 hkk0 hkk1 (by simp [refKind]) h1 h2 h3
    (by rw [nn sp h1, nn mm h3]; show ¬ _ > ((arrV (dA 0) us.length (fun j => .int (ab_i (us.getD j .null)))).slots.size : Int); rw [arrV_size]; omega)
    (by rw [nn dp h2, nn mm h3]; show ¬ _ > ((arrV (dA 0) vs.length (fun j => .int (ab_i (vs.getD j .null)))).slots.size : Int); rw [arrV_size]; omega)
    (fun vm₁ _ i hi => by
      have e : (vp_cell (dA 0) (us.length, .inl (fun j => ab_i (us.getD j .null)))).slots.getD (sp.toNatClampNeg + i) .null = .int (ab_i (us.getD (sp.toNatClampNeg + i) .null)) := by
        show (arrV (dA 0) us.length (fun j => .int (ab_i (us.getD j .null)))).slots.getD _ _ = _
        rw [Array.getD_eq_getD_getElem?, arrV_read _ _ (by omega)]
        rfl
      refine ⟨?_, ?_⟩
      · rw [e]
        rfl
      · rw [e]
        exact trivial)
    (g := F0 m pc arr (.int mm :: .int dp :: .ref (bs + a) :: .int sp :: .ref (bs + a0) :: st.map (ab_v bs b))) rfl (by rw [hC.1.2.2.1]; exact hL.1) (rest := st.map (ab_v bs b)) rfl (by rw [hC.1.2.1]; exact hd) (by omega) (by
      have hnw : nativeFrameWords "java/lang/System" "arraycopy" 5 ≤ 20 := by decide +kernel
      show 2 * 0 + _ + (_ + 11) ≤ _
      have h9 : ((st.map (ab_v bs b)).map fun v => v.category).sum ≤ 8 := by
        have : 2 * (F0 m pc arr []).monitorRoom + ((st.map (ab_v bs b)).map fun v => v.category).sum ≤ 8 := h8
        omega
      omega)
  have e1 : copied (vp_cell (dA 0) (us.length, .inl (fun j => ab_i (us.getD j .null)))) (vp_cell (dA 0) (vs.length, .inl (fun j => ab_i (vs.getD j .null)))) sp dp mm = vp_cell (dA 0) (vs.length, .inl (va_cpy (fun j => ab_i (us.getD j .null)) (fun j => ab_i (vs.getD j .null)) sp.toNatClampNeg dp.toNatClampNeg mm.toNatClampNeg)) := va_copied (fun z => .int z) (dA 0) (dA 0) (fun j => ab_i (us.getD j .null)) (fun j => ab_i (vs.getD j .null)) h4
  rw [e1] at X' step
  have hl : bs + a < H.size := (Array.getElem?_eq_some_iff.mp f1).1
  generalize hcell : vp_cell (dA 0) (vs.length, .inl (va_cpy (fun j => ab_i (us.getD j .null)) (fun j => ab_i (vs.getD j .null)) sp.toNatClampNeg dp.toNatClampNeg mm.toNatClampNeg)) = nc at X' step
  have hheap : ((T.setVm vm').setCell (bs + a) nc).heap = H.setIfInBounds (bs + a) nc := by rw [← hT]; rfl
  have oq : ∀ q : Nat, q ≠ bs + a → (H.setIfInBounds (bs + a) nc)[q]? = H[q]? := fun q hq => by simp [Array.getElem?_setIfInBounds, Ne.symm hq]
  have hz : (H.setIfInBounds (bs + a) nc).size = H.size := by simp
  have hnew : (H.setIfInBounds (bs + a) nc)[bs + a]? = some nc := by simp [Array.getElem?_setIfInBounds, hl]
  have hp := hH.pos hc (by show 10 ≠ 16; omega)
  have hat : ab_at D dA bs b s a (10, ab_cpy us vs sp.toNatClampNeg dp.toNatClampNeg mm.toNatClampNeg) (H.setIfInBounds (bs + a) nc) := by
    refine ⟨fun h => by have h' : (10 : Nat) = 16 := h; omega, fun h => by have h' : (10 : Nat) < 10 := h; omega, fun _ _ => ?_⟩
    rw [hnew, ← hcell, vp_cell_i]
    have hlen : (ab_cpy us vs sp.toNatClampNeg dp.toNatClampNeg mm.toNatClampNeg).length = vs.length := by simp [ab_cpy]
    show _ = some (arrV (dA 0) (ab_cpy us vs sp.toNatClampNeg dp.toNatClampNeg mm.toNatClampNeg).length _)
    rw [hlen]
    refine congrArg some (ab_arrV_congr fun j hj => ?_)
    show _ = ab_v bs b ((ab_cpy us vs sp.toNatClampNeg dp.toNatClampNeg mm.toNatClampNeg).getD j .null)
    have eg : (ab_cpy us vs sp.toNatClampNeg dp.toNatClampNeg mm.toNatClampNeg).getD j .null = if dp.toNatClampNeg ≤ j ∧ j < dp.toNatClampNeg + mm.toNatClampNeg then us.getD (sp.toNatClampNeg + (j - dp.toNatClampNeg)) .null else vs.getD j .null := by
      rw [List.getD_eq_getElem?_getD]
      unfold ab_cpy
      rw [List.getElem?_map, List.getElem?_range hj]
      rfl
    rw [eg]
    unfold va_cpy
    by_cases hcond : dp.toNatClampNeg ≤ j ∧ j < dp.toNatClampNeg + mm.toNatClampNeg
    · rw [if_pos hcond, if_pos hcond]
      exact (ab_ints_get hus (by omega) bs b).symm
    · rw [if_neg hcond, if_neg hcond]
      exact (ab_ints_get hvs hj bs b).symm
  obtain ⟨t, a1, b1⟩ := kk hC (hH.set hc (by show 10 ≠ 16; omega) rfl hz oq hat) (locs := _) ⟨by rw [hz]; exact hS.1, fun q g1 g2 => by
      rw [oq q (fun e => g2 (by rw [e]; show bs < bs + a; omega))]
      exact hS.2.1 q g1 g2, fun q hq => by
      rcases List.mem_append.mp hq with h | h
      · exact hS.2.2 q h
      · obtain ⟨z, -, hz⟩ := List.mem_map.mp h
        rw [← hz]
        show bs < bs + a
        omega⟩ hL hr _ hheap X'
  exact ⟨t, step t a1, b1⟩
theorem ab_grow {bs : Nat} {H0 H H1 : Heap} {locs : List Loc} (hS : va_S (fun q => bs < q) H0 H locs) (z : H.size ≤ H1.size) (oq : ∀ q, q < H.size → H1[q]? = H[q]?) : va_S (fun q => bs < q) H0 H1 locs :=
  ⟨Nat.le_trans hS.1 z, fun q h1 h2 => (oq q (Nat.lt_of_lt_of_le h1 hS.1)).trans (hS.2.1 q h1 h2), hS.2.2⟩
theorem ab_new {ci idx : Nat} {q : vw_C} {fs : List Value} (hq : vwCl[ci]? = some q) (w1 : Cond.classLink Y.1.cls idx q.1 ∈ ab_gw) (w2 : Cond.instantiable q.1 q.2.2 ∈ ab_gw) (w3 : Cond.initialized q.1 ∈ ab_gw) (hd : decode Y.2.1 pc = .ok (.new idx, 3)) (hfs : ∀ (j : Nat) (ty : FieldType), j < q.2.2 → parseFieldDescriptor (q.2.1 j).2.2.1 = some ty → fs[j]? = some (defaultValue ty)) (hnr : ∀ v ∈ fs, ∀ r, v ≠ .ref r) (hf2 : fs.length = q.2.2)
    (kk : ab_Run Y d k n (M ++ [(ci, fs)]) (pc + 3) ls (.ref M.length :: st) Q) : ab_Run Y d (k + 1) (n + q.2.2) M pc ls st Q := by
  intro p l e R s m args below meth c D dA bs b tc ts H locs cells slots arr Z hC hH hS hL hr
  have hb3 := hC.2.2.1
  have hts := hC.1.2.2.2.2
  have hKn := hC.2.1.1.1 ci _ hq
  obtain ⟨hin, ⟨ty0, hty⟩, hnm⟩ := ab_cl ci _ hq
  have hci := ab_cl0 _ _ hq
  refine W.newcK hC.1.1 hC.1.2.1 hC.1.2.2.2.1 (hts _ w1) (hts _ w2) (hts _ w3) (g := F0 m pc arr (st.map (ab_v bs b))) rfl hd (by omega) (by omega) hKn.2.1 rfl fun H1 kC hkC e1 z1 o1 => ?_
  have hl0 : 0 < M.length := by
    obtain ⟨xs, hx⟩ := hH.2.2.1
    exact (List.getElem?_eq_some_iff.mp hx).1
  have hat : ab_at D dA bs b s M.length (ci, fs) H1 := by
    refine ⟨fun h => by have h' : ci = 16 := h; omega, fun _ => ⟨_, hq, ?_⟩, fun h h2 => by have h' : 10 ≤ ci := h; omega⟩
    rw [← hH.1]
    refine (u_born ty0 hts hin hKn hkC e1 hty).to fun j hj => ?_
    have h1 := hfs j _ hj (hty j hj)
    unfold vp_V
    rw [List.getD_eq_getElem?_getD, List.getElem?_map, h1]
    show _ = ab_v bs b (defaultValue (ty0 j))
    have h2 := hnr _ (List.mem_of_getElem? h1)
    generalize defaultValue (ty0 j) = v at h2
    cases v <;> first | rfl | exact absurd rfl (h2 _)
  have hC2 : ab_Cx Y d k n tc ts D dA bs p R s m args meth c (cells + 1) (slots + q.2.2) := by
    obtain ⟨c1, c2, c3, c4⟩ := hC
    exact ⟨c1, c2, ⟨c3.1, c3.2.1, by omega, by omega, c3.2.2.2.2.1, c3.2.2.2.2.2⟩, c4⟩
  have hfin := kk hC2 (hH.push z1 o1 hat) (ab_grow hS (by omega) o1) hL hr
  have e9 : (Value.ref M.length :: st).map (ab_v bs b) = .ref H.size :: st.map (ab_v bs b) := by
    show Value.ref (ab_ad bs b M.length) :: _ = _
    rw [hH.1]
    unfold ab_ad
    rw [if_neg (by omega)]
  rw [e9] at hfin
  exact hfin
theorem ab_newint {a0 N : Nat} {x : Int32} (w1 : Cond.arrayClass .int ∈ ab_gw) (hd : decode Y.2.1 pc = .ok (.newarray .int, 2)) (hx : ¬ x < 0) (hN : x.toNatClampNeg = N) (hsm : N ≤ 100000) (ha : a0 = M.length)
    (kk : ab_Run Y d k n (M ++ [(10, List.replicate N (.int 0))]) (pc + 2) ls (.ref a0 :: st) Q) : ab_Run Y d (k + 1) (n + N) M pc ls (.int x :: st) Q := by
  intro p l e R s m args below meth c D dA bs b tc ts H locs cells slots arr Z hC hH hS hL hr
  subst ha
  have hb3 := hC.2.2.1
  have hts := hC.1.2.2.2.2
  refine va_newaK (atype := .int) hC.1.1 hC.1.2.1 (hts _ w1) (g := F0 m pc arr (.int x :: st.map (ab_v bs b))) rfl hd rfl hx hN (by show N * 4 ≤ 536870912; omega) (by omega) (by omega) rfl fun H1 cA e1 z1 o1 hAr hNm => ?_
  have hl0 : 0 < M.length := by
    obtain ⟨xs, hx⟩ := hH.2.2.1
    exact (List.getElem?_eq_some_iff.mp hx).1
  have hcA : cA = dA 0 := Option.some.inj (hNm.symm.trans (hC.2.1.1.2 0 _ rfl).2)
  have hat : ab_at D dA bs b s M.length (10, List.replicate N (.int 0)) H1 := by
    refine ⟨fun h => by have h' : (10 : Nat) = 16 := h; omega, fun h => by have h' : (10 : Nat) < 10 := h; omega, fun _ _ => ?_⟩
    rw [← hH.1, e1, hcA]
    show _ = some (arrV (dA 0) (List.replicate N (Value.int 0)).length _)
    rw [List.length_replicate]
    refine congrArg some (ab_arrV_congr fun j hj => ?_)
    show _ = ab_v bs b ((List.replicate N (Value.int 0)).getD j .null)
    rw [List.getD_eq_getElem?_getD, List.getElem?_replicate, if_pos hj]
    rfl
  have hC2 : ab_Cx Y d k n tc ts D dA bs p R s m args meth c (cells + 1) (slots + N) := by
    obtain ⟨c1, c2, c3, c4⟩ := hC
    exact ⟨c1, c2, ⟨c3.1, c3.2.1, by omega, by omega, c3.2.2.2.2.1, c3.2.2.2.2.2⟩, c4⟩
  have hfin := kk hC2 (hH.push z1 o1 hat) (ab_grow hS (by omega) o1) hL hr
  have e9 : (Value.ref M.length :: st).map (ab_v bs b) = .ref H.size :: st.map (ab_v bs b) := by
    show Value.ref (ab_ad bs b M.length) :: _ = _
    rw [hH.1]
    unfold ab_ad
    rw [if_neg (by omega)]
  rw [e9] at hfin
  exact hfin
theorem ab_newbool {a0 N : Nat} {x : Int32} (w1 : Cond.arrayClass .boolean ∈ ab_gw) (hd : decode Y.2.1 pc = .ok (.newarray .boolean, 2)) (hx : ¬ x < 0) (hN : x.toNatClampNeg = N) (hsm : N ≤ 100000) (ha : a0 = M.length)
    (kk : ab_Run Y d k n (M ++ [(11, List.replicate N (.int 0))]) (pc + 2) ls (.ref a0 :: st) Q) : ab_Run Y d (k + 1) (n + N) M pc ls (.int x :: st) Q := by
  intro p l e R s m args below meth c D dA bs b tc ts H locs cells slots arr Z hC hH hS hL hr
  subst ha
  have hb3 := hC.2.2.1
  have hts := hC.1.2.2.2.2
  refine va_newaK (atype := .boolean) hC.1.1 hC.1.2.1 (hts _ w1) (g := F0 m pc arr (.int x :: st.map (ab_v bs b))) rfl hd rfl hx hN (by show N * 1 ≤ 536870912; omega) (by omega) (by omega) rfl fun H1 cA e1 z1 o1 hAr hNm => ?_
  have hl0 : 0 < M.length := by
    obtain ⟨xs, hx⟩ := hH.2.2.1
    exact (List.getElem?_eq_some_iff.mp hx).1
  have hcA : cA = dA 1 := Option.some.inj (hNm.symm.trans (hC.2.1.1.2 1 _ rfl).2)
  have hat : ab_at D dA bs b s M.length (11, List.replicate N (.int 0)) H1 := by
    refine ⟨fun h => by have h' : (11 : Nat) = 16 := h; omega, fun h => by have h' : (11 : Nat) < 10 := h; omega, fun _ _ => ?_⟩
    rw [← hH.1, e1, hcA]
    show _ = some (arrV (dA 1) (List.replicate N (Value.int 0)).length _)
    rw [List.length_replicate]
    refine congrArg some (ab_arrV_congr fun j hj => ?_)
    show _ = ab_v bs b ((List.replicate N (Value.int 0)).getD j .null)
    rw [List.getD_eq_getElem?_getD, List.getElem?_replicate, if_pos hj]
    rfl
  have hC2 : ab_Cx Y d k n tc ts D dA bs p R s m args meth c (cells + 1) (slots + N) := by
    obtain ⟨c1, c2, c3, c4⟩ := hC
    exact ⟨c1, c2, ⟨c3.1, c3.2.1, by omega, by omega, c3.2.2.2.2.1, c3.2.2.2.2.2⟩, c4⟩
  have hfin := kk hC2 (hH.push z1 o1 hat) (ab_grow hS (by omega) o1) hL hr
  have e9 : (Value.ref M.length :: st).map (ab_v bs b) = .ref H.size :: st.map (ab_v bs b) := by
    show Value.ref (ab_ad bs b M.length) :: _ = _
    rw [hH.1]
    unfold ab_ad
    rw [if_neg (by omega)]
  rw [e9] at hfin
  exact hfin
end AbMake
