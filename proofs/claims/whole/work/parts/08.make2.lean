/-! arrays of references -/
def ab_cn (kd : Nat) : String := if kd = 12 then RX5 else if kd = 13 then RX6 else RX0
section AbMake2
variable {Y : ab_Y} {d k n : Nat} {M : ab_M} {pc : Nat} {ls : List (Option Value)} {st : List Value} {Q : ab_M → Option Value → Prop}
theorem ab_tys_obj {dA : Nat → ClassId} {kd : Nat} (h : 12 ≤ kd) (h2 : kd < 15) : (ab_tys dA)[kd - 10]? = some (dA (kd - 10), .object (ab_cn kd)) := by
  match kd, h, h2 with
  | 12, _, _ => rfl
  | 13, _, _ => rfl
  | 14, _, _ => rfl
  | n + 15, _, h => omega
theorem ab_AO_of {D : va_G} {dA : Nat → ClassId} {U : State} {kd : Nat} (h : 12 ≤ kd) (h2 : kd < 15) (hK : ab_K D dA U) : va_AO (ab_cn kd) U := by
  match kd, h, h2 with
  | 12, _, _ => exact hK.2.2.1
  | 13, _, _ => exact hK.2.2.2.1
  | 14, _, _ => exact hK.2.2.2.2.1
  | n + 15, _, h => omega
theorem ab_newref {a0 N idx kd : Nat} {x : Int32} (h12 : 12 ≤ kd) (h15 : kd < 15) (w1 : Cond.classLink Y.1.cls idx (ab_cn kd) ∈ ab_gw) (hd : decode Y.2.1 pc = .ok (.anewarray idx, 3)) (hx : ¬ x < 0) (hN : x.toNatClampNeg = N) (hsm : N ≤ 100000) (ha : a0 = M.length)
    (kk : ab_Run Y d k n (M ++ [(kd, List.replicate N .null)]) (pc + 3) ls (.ref a0 :: st) Q) : ab_Run Y d (k + 1) (n + N) M pc ls (.int x :: st) Q := by
  intro p l e R s m args below meth c D dA bs b tc ts H locs cells slots arr Z hC hH hS hL hr
  subst ha
  subst hN
  have hb3 := hC.2.2.1
  have hts := hC.1.2.2.2.2
  refine W.anew hC.1.1 hC.1.2.1 hC.1.2.2.2.1 (hts _ w1) (va_AO.use (ab_AO_of h12 h15 hC.2.1)) (g := F0 m pc arr (.int x :: st.map (ab_v bs b))) rfl hd rfl hx (by omega) (by omega) (by omega) fun cA kA comp f1 f2 f3 f4 => ?_
  have hl0 : 0 < M.length := by
    obtain ⟨xs, hx⟩ := hH.2.2.1
    exact (List.getElem?_eq_some_iff.mp hx).1
  generalize hH1 : H.push ({ cls := cA, slots := Array.replicate x.toNatClampNeg .null, vm := .none } : Cell) = H1
  have z1 : H1.size = H.size + 1 := by rw [← hH1, Array.size_push]
  have e1 : H1[H.size]? = some (arrV cA x.toNatClampNeg (fun _ => .null)) := by rw [← hH1, Array.getElem?_push_size, ← arrV_new]
  have o1 : ∀ q : Nat, q < H.size → H1[q]? = H[q]? := fun q hq => by rw [← hH1, Array.getElem?_push, if_neg (Nat.ne_of_lt hq)]
  have hcA : cA = dA (kd - 10) := by
    obtain ⟨_, _, _, _, _, h4⟩ := (hC.2.1.1.2 _ _ (ab_tys_obj h12 h15)).2
    exact Option.some.inj (f1.symm.trans h4)
  have hat : ab_at D dA bs b s M.length (kd, List.replicate x.toNatClampNeg .null) H1 := by
    refine ⟨fun h => by have h' : kd = 16 := h; omega, fun h => by have h' : kd < 10 := h; omega, fun _ _ => ?_⟩
    rw [← hH.1, e1, hcA]
    show _ = some (arrV (dA (kd - 10)) (List.replicate x.toNatClampNeg Value.null).length _)
    rw [List.length_replicate]
    refine congrArg some (ab_arrV_congr fun j hj => ?_)
    show _ = ab_v bs b ((List.replicate x.toNatClampNeg Value.null).getD j .null)
    rw [List.getD_eq_getElem?_getD, List.getElem?_replicate, if_pos hj]
    rfl
  have hC2 : ab_Cx Y d k n tc ts D dA bs p R s m args meth c (cells + 1) (slots + x.toNatClampNeg) := by
    obtain ⟨c1, c2, c3, c4⟩ := hC
    exact ⟨c1, c2, ⟨c3.1, c3.2.1, by omega, by omega, c3.2.2.2.2.1, c3.2.2.2.2.2⟩, c4⟩
  have hfin := kk hC2 (hH.push z1 o1 hat) (ab_grow hS (by omega) o1) hL hr
  have e9 : (Value.ref M.length :: st).map (ab_v bs b) = .ref H.size :: st.map (ab_v bs b) := by
    show Value.ref (ab_ad bs b M.length) :: _ = _
    rw [hH.1]
    unfold ab_ad
    rw [if_neg (by omega)]
  rw [e9] at hfin
  exact hfin
theorem ab_aastore {a i v kd ci : Nat} {x : Int32} {vs fs : List Value} {q : vw_C} (h12 : 12 ≤ kd) (h15 : kd < 15) (hd : decode Y.2.1 pc = .ok (.aastore, 1)) (hc : M[a]? = some (kd, vs)) (hi : ab_ix x vs.length i) (hcv : M[v]? = some (ci, fs)) (hq : vwCl[ci]? = some q) (hqc : q.1 = ab_cn kd) (kk : ab_Run Y d k n (M.set a (kd, vs.set i (.ref v))) (pc + 1) ls st Q) : ab_Run Y d k n M pc ls (.ref v :: .int x :: .ref a :: st) Q := by
  intro p l e R s m args below meth c D dA bs b tc ts H locs cells slots arr Z hC hH hS hL hr
  have hci := ab_cl0 _ _ hq
  have h1 := (hH.2.2.2 a _ hc).2.2 (by show 10 ≤ kd; omega) (by show kd < 16; omega)
  obtain ⟨r9, hr9, cellV, g1, g2, g3, -⟩ := (hH.2.2.2 v _ hcv).2.1 hci
  show W p l e R s m args below meth c H locs cells slots Z (F0 m pc arr (.ref (ab_ad bs b v) :: .int x :: .ref (ab_ad bs b a) :: st.map (ab_v bs b)))
  rw [hH.ad hc (by show kd ≠ 16; omega)]
  have ev := hH.ad hcv (by show ci ≠ 16; omega)
  rw [ev]
  obtain ⟨i1, i2, i3⟩ := hi
  have hcls := (hC.2.1.1.1 ci _ hq).2
  obtain ⟨kA, comp, k1, k2, k3, -⟩ := (hC.2.1.1.2 _ _ (ab_tys_obj (dA := dA) h12 h15)).2
  have hcomp : comp = D.1 ci := by
    have h9 := hcls.1
    rw [hqc] at h9
    exact Option.some.inj (k3.symm.trans h9)
  subst hcomp
  obtain ⟨kC, hkC, -⟩ := hcls.2
  refine W.aast hC.1.1 hC.1.2.1 h1 (fun q h => by cases h) (fun h => by cases h) k1 k2 rfl hkC ⟨i1, by rw [arrV_size, i2]; exact i3⟩ g1 (fun q h => by rw [g3] at h; cases h) (by rw [g2]; exact hkC) (by rw [g2]; exact va_assign hcls) rfl rfl hd fun H' e1 e2 e3 => ?_
  rw [i2] at e1
  have hp := hH.pos hc (by show kd ≠ 16; omega)
  exact kk hC (hH.set hc (by show kd ≠ 16; omega) rfl e2 e3 (ab_set_at (v := .ref v) (by omega) (by omega) i3 rfl (by rw [e1, ab_v_ref, ev]))) (hS.put e2 e3 (by omega)) hL hr
set_option maxHeartbeats 1000000 in
theorem ab_newgrid {a0 N K idx : Nat} {x y : Int32} (w1 : Cond.classLink Y.1.cls idx ("[" ++ (FieldType.array .int).toString) ∈ ab_gw) (w2 : Cond.arrayClass .int ∈ ab_gw) (hd : decode Y.2.1 pc = .ok (.multianewarray idx 2, 4)) (hx : ¬ x < 0) (hN : x.toNatClampNeg = N) (hy : ¬ y < 0) (hK9 : y.toNatClampNeg = K) (hsm : N ≤ 1000) (hsk : K ≤ 1000) (ha : a0 = M.length)
    (kk : ab_Run Y d k n (M ++ (15, (List.range N).map (fun i => .ref (a0 + 1 + i))) :: List.replicate N (10, List.replicate K (.int 0))) (pc + 4) ls (.ref a0 :: st) Q) : ab_Run Y d (k + (1 + N)) (n + (N + N * K)) M pc ls (.int y :: .int x :: st) Q := by
  intro p l e R s m args below meth c D dA bs b tc ts H locs cells slots arr Z hC hH hS hL hr
  subst ha
  subst hN
  subst hK9
  have hb3 := hC.2.2.1
  have hts := hC.1.2.2.2.2
  have hl0 : 0 < M.length := by
    obtain ⟨xs, hx⟩ := hH.2.2.1
    exact (List.getElem?_eq_some_iff.mp hx).1
  show W p l e R s m args below meth c H locs cells slots Z (F0 m pc arr (.int y :: .int x :: st.map (ab_v bs b)))
  intro T hT Xs
  obtain ⟨vm₁, cA, comp, -, fA, fC, hO, -, X', step⟩ := Xs.multianewarray2F hC.1.1 hC.1.2.2.2.1 (hts _ w1) (va_AOA.use hC.2.1.2.2.2.2.2) (hts _ w2) (g := F0 m pc arr (.int y :: .int x :: st.map (ab_v bs b))) rfl (by rw [hC.1.2.1]; exact hd) rfl hx hy (by omega) (by show _ * 4 ≤ _; omega) (by omega) rfl rfl (by omega) (by omega)
  have hcA : cA = dA 5 := Option.some.inj (fA.symm.trans (hC.2.1.1.2 5 _ rfl).2)
  have hcC : comp = dA 0 := Option.some.inj (fC.symm.trans (hC.2.1.1.2 0 _ rfl).2)
  subst hcA
  subst hcC
  generalize hF : Jvm.Free.Multi.fill (T.setVm vm₁) (dA 5) (dA 0) x.toNatClampNeg y.toNatClampNeg (defaultValue .int) x.toNatClampNeg = F at X' step
  have hTh : (T.setVm vm₁).heap = H := hT
  obtain ⟨f1, f2, -, -⟩ := Jvm.Free.Multi.fill_facts (T.setVm vm₁) (dA 5) (dA 0) x.toNatClampNeg y.toNatClampNeg (defaultValue .int) x.toNatClampNeg
  rw [hF, hTh] at f1 f2
  have hold : ∀ q : Nat, q < H.size → F.heap[q]? = H[q]? := fun q hq => by
    have := Jvm.Free.Multi.fill_old (T.setVm vm₁) (dA 5) (dA 0) x.toNatClampNeg y.toNatClampNeg (defaultValue .int) (a := q) (by rw [hTh]; exact hq) x.toNatClampNeg
    rw [hF, hTh] at this
    exact this
  have hrow : ∀ j : Nat, j < x.toNatClampNeg → F.heap[H.size + 1 + j]? = some (arrV (dA 0) y.toNatClampNeg (fun _ => .int 0)) := fun j hj => by
    have := Jvm.Free.Multi.fill_inner (T.setVm vm₁) (dA 5) (dA 0) x.toNatClampNeg y.toNatClampNeg (defaultValue .int) x.toNatClampNeg j hj
    rw [hF, hTh] at this
    rw [this]
    exact congrArg some (arrV_new (dA 0) y.toNatClampNeg (.int 0))
  rw [vr_outer] at f2
  have hH2 : ab_H D dA bs b (M ++ (15, (List.range x.toNatClampNeg).map (fun i => .ref (M.length + 1 + i))) :: List.replicate x.toNatClampNeg (10, List.replicate y.toNatClampNeg (.int 0))) s F.heap := by
    obtain ⟨h1, h2, ⟨xs, h3⟩, h4⟩ := hH
    refine ⟨?_, h2, ⟨xs, by rw [List.getElem?_append_left hl0]; exact h3⟩, fun j e hj => ?_⟩
    · rw [f1, h1]
      simp only [List.length_append, List.length_cons, List.length_replicate]
      omega
    · by_cases hjk : j < M.length
      · rw [List.getElem?_append_left hjk] at hj
        exact (h4 j e hj).kept (hold b (by omega)) (fun _ => hold _ (by omega))
      · rw [List.getElem?_append_right (by omega)] at hj
        by_cases hj0 : j = M.length
        · subst hj0
          rw [Nat.sub_self] at hj
          cases hj
          refine ⟨fun h => by have h' : (15 : Nat) = 16 := h; omega, fun h => by have h' : (15 : Nat) < 10 := h; omega, fun _ _ => ?_⟩
          rw [← h1, f2]
          show _ = some (arrV (dA 5) ((List.range x.toNatClampNeg).map (fun i => Value.ref (M.length + 1 + i))).length _)
          rw [List.length_map, List.length_range]
          refine congrArg some (ab_arrV_congr fun i hi => ?_)
          show _ = ab_v bs b (((List.range x.toNatClampNeg).map (fun i => Value.ref (M.length + 1 + i))).getD i .null)
          rw [List.getD_eq_getElem?_getD, List.getElem?_map, List.getElem?_range hi, if_pos hi]
          show Value.ref (H.size + 1 + i) = Value.ref (ab_ad bs b (M.length + 1 + i))
          unfold ab_ad
          rw [if_neg (by omega)]
          have e5 : (H.size + 1 + i : Nat) = bs + (M.length + 1 + i) := by omega
          exact congrArg Value.ref e5
        · rw [show j - M.length = (j - M.length - 1) + 1 by omega, List.getElem?_cons_succ, List.getElem?_replicate] at hj
          split at hj
          · cases hj
            rename_i hj9
            refine ⟨fun h => by have h' : (10 : Nat) = 16 := h; omega, fun h => by have h' : (10 : Nat) < 10 := h; omega, fun _ _ => ?_⟩
            have h5 := hrow (j - M.length - 1) hj9
            rw [show H.size + 1 + (j - M.length - 1) = bs + j by omega] at h5
            rw [h5]
            show _ = some (arrV (dA 0) (List.replicate y.toNatClampNeg (Value.int 0)).length _)
            rw [List.length_replicate]
            refine congrArg some (ab_arrV_congr fun i hi => ?_)
            show _ = ab_v bs b ((List.replicate y.toNatClampNeg (Value.int 0)).getD i .null)
            rw [List.getD_eq_getElem?_getD, List.getElem?_replicate, if_pos hi]
            rfl
          · cases hj
  have hC2 : ab_Cx Y d k n tc ts D dA bs p R s m args meth c (cells + 1 + x.toNatClampNeg) (slots + x.toNatClampNeg + x.toNatClampNeg * y.toNatClampNeg) := by
    obtain ⟨c1, c2, c3, c4⟩ := hC
    exact ⟨c1, c2, ⟨c3.1, c3.2.1, by omega, by omega, c3.2.2.2.2.1, c3.2.2.2.2.2⟩, c4⟩
  have hfin := kk hC2 hH2 (ab_grow hS (by omega) hold) hL hr
  have e9 : (Value.ref M.length :: st).map (ab_v bs b) = .ref H.size :: st.map (ab_v bs b) := by
    show Value.ref (ab_ad bs b M.length) :: _ = _
    rw [hH.1]
    unfold ab_ad
    rw [if_neg (by omega)]
  rw [e9] at hfin
  obtain ⟨t, a1, b1⟩ := hfin F rfl X'
  refine ⟨t, step t ?_, b1⟩
  have e : T.heap.size = H.size := by rw [hT]
  rw [e]
  exact a1
end AbMake2
