/-! the memory's rules -/
theorem ab_cl0 : ∀ ci : Nat, ∀ q : vw_C, vwCl[ci]? = some q → ci < 10 := fun ci q h => (List.getElem?_eq_some_iff.mp h).1
theorem ab_in {C : String} {T : u_T} {N : Nat} (h : ∀ w ∈ u_ws C T N, w ∈ lw_tbl) : ∀ w ∈ u_ws C T N, w ∈ ab_gw := fun w hw => List.mem_filter.mpr ⟨h w hw, by
  obtain ⟨k, -, rfl⟩ := List.mem_map.mp hw
  unfold u_lay
  split <;> rfl⟩
def ab_ok (q : vw_C) : Prop := (∀ w ∈ u_ws q.1 q.2.1 q.2.2, w ∈ ab_gw) ∧ (∃ ty0 : Nat → FieldType, ∀ k, k < q.2.2 → parseFieldDescriptor (q.2.1 k).2.2.1 = some (ty0 k)) ∧ ∀ a, a < q.2.2 → ∀ b, b < q.2.2 → a ≠ b → (q.2.1 a).2.1 ≠ (q.2.1 b).2.1
theorem ab_cl (ci : Nat) (q : vw_C) (h : vwCl[ci]? = some q) : ab_ok q := by
  have h1 := ab_cl0 ci q h
  match ci, h with
  | 0, h => cases h; exact ⟨ab_in inX0, ⟨tyX0, tyX0_ok⟩, nmX0⟩
  | 1, h => cases h; exact ⟨ab_in inX1, ⟨tyX1, tyX1_ok⟩, nmX1⟩
  | 2, h => cases h; exact ⟨ab_in inX2, ⟨tyX2, tyX2_ok⟩, nmX2⟩
  | 3, h => cases h; exact ⟨ab_in inX3, ⟨tyX3, tyX3_ok⟩, nmX3⟩
  | 4, h => cases h; exact ⟨ab_in inX4, ⟨tyX4, tyX4_ok⟩, nmX4⟩
  | 5, h => cases h; exact ⟨ab_in inX5, ⟨tyX5, tyX5_ok⟩, nmX5⟩
  | 6, h => cases h; exact ⟨ab_in inX6, ⟨tyX6, tyX6_ok⟩, nmX6⟩
  | 7, h => cases h; exact ⟨ab_in inX7, ⟨tyX7, tyX7_ok⟩, nmX7⟩
  | 8, h => cases h; exact ⟨ab_in inX8, ⟨tyX8, tyX8_ok⟩, nmX8⟩
  | 9, h => cases h; exact ⟨ab_in inX9, ⟨tyX9, tyX9_ok⟩, nmX9⟩
  | n + 10, h => omega
def ab_fl (own : String) (idx ci j : Nat) : Prop := ∃ q : vw_C, vwCl[ci]? = some q ∧ j < q.2.2 ∧ Cond.fieldLink own idx (q.2.1 j).1 (q.2.1 j).2.1 (q.2.1 j).2.2.1 ∈ ab_gw
section AbMem
variable {Y : ab_Y} {d k n : Nat} {M : ab_M} {pc : Nat} {ls : List (Option Value)} {st : List Value} {Q : ab_M → Option Value → Prop}
theorem ab_getfield {ci j a idx : Nat} {fs : List Value} {v : Value} (hf : ab_fl Y.1.cls idx ci j) (hd : decode Y.2.1 pc = .ok (.getfield idx, 3)) (hc : M[a]? = some (ci, fs)) (hv : fs[j]? = some v) (kk : ab_Run Y d k n M (pc + 3) ls (v :: st) Q) : ab_Run Y d k n M pc ls (.ref a :: st) Q := by
  intro p l e R s m args below meth c D dA bs b tc ts H locs cells slots arr Z hC hH hS hL hr
  obtain ⟨⟨C, T, N⟩, hq, hj, hw⟩ := hf
  have hci := ab_cl0 _ _ hq
  obtain ⟨r, h1, hob⟩ := (hH.2.2.2 a _ hc).2.1 hci
  have hP : va_P D vwCl [(bs + a, .inr (ci, fs.map (ab_v bs b)))] H := fun k9 q9 h9 => by
    have h0 : k9 < 1 := (List.getElem?_eq_some_iff.mp h9).1
    rw [show k9 = 0 by omega] at h9
    cases h9
    exact ⟨r, h1, hob⟩
  show W p l e R s m args below meth c H locs cells slots Z (F0 m pc arr (.ref (ab_ad bs b a) :: st.map (ab_v bs b)))
  rw [hH.ad hc (by show ci ≠ 16; omega)]
  exact va_get (v := ab_v bs b v) hC.1.1 hC.1.2.1 hC.1.2.2.2.2 (ab_cl ci _ hq).1 hC.1.2.2.2.1 hC.2.1.1 hP 0 rfl hq j hj (hC.1.2.2.2.2 _ hw) (fun _ h9 => h9) (by rw [List.getElem?_map, hv]; rfl) hd (kk hC hH hS hL hr)
/-- a field that is put: of its own class, final or not -/
def ab_fp (own : String) (idx ci j : Nat) (fin : Bool) (ty : FieldType) : Prop := ∃ q : vw_C, vwCl[ci]? = some q ∧ j < q.2.2 ∧ Cond.fieldLink own idx (q.2.1 j).1 (q.2.1 j).2.1 (q.2.1 j).2.2.1 ∈ ab_gw ∧ (q.2.1 j).2.2.2 = fin ∧ parseFieldDescriptor (q.2.1 j).2.2.1 = some ty ∧ (fin = true → (q.2.1 j).1 = own)
theorem ab_putfield {ci j a idx : Nat} {fs : List Value} {v : Value} {ty : FieldType} (hf : ab_fp Y.1.cls idx ci j false ty) (hd : decode Y.2.1 pc = .ok (.putfield idx, 3)) (hc : M[a]? = some (ci, fs)) (hl : j < fs.length) (hn : ∀ bs b, narrow ty (ab_v bs b v) = ab_v bs b v ∧ fits ty (ab_v bs b v) = true) (kk : ab_Run Y d k n (M.set a (ci, fs.set j v)) (pc + 3) ls st Q) : ab_Run Y d k n M pc ls (v :: .ref a :: st) Q := by
  intro p l e R s m args below meth c D dA bs b tc ts H locs cells slots arr Z hC hH hS hL hr
  obtain ⟨⟨C, T, N⟩, hq, hj, hw, hfin, hpd, -⟩ := hf
  have hci := ab_cl0 _ _ hq
  obtain ⟨hin, ⟨ty0, hty⟩, hnm⟩ := ab_cl ci _ hq
  have hts := hC.1.2.2.2.2
  have hap := va_apart (own := Y.1.cls) hts hin ty0 hty hnm hC.2.1.1 hq
  obtain ⟨r, h1, cell, q1, q2, q3, q4⟩ := (hH.2.2.2 a _ hc).2.1 hci
  have hr9 : r = (C, T, N) := Option.some.inj (h1.symm.trans hq)
  subst hr9
  obtain ⟨hS9, hfc, kC, hkC, hkind⟩ := hC.2.1.1.1 ci _ hq
  obtain ⟨cf, kf, fi, f, hi, hsl⟩ := hS9 j hj
  have hlay := hts _ (hin _ (u_in_lay hj))
  unfold u_lay at hlay
  rw [if_neg (by rw [hfin]; decide)] at hlay
  have hst := (u_facts hfc hkC (u_lays hts hin hj) hi).1
  have h6 := u_store hfc hkC hkind hlay hi hpd (hn bs b).1 (hn bs b).2
  show W p l e R s m args below meth c H locs cells slots Z (F0 m pc arr (ab_v bs b v :: .ref (ab_ad bs b a) :: st.map (ab_v bs b)))
  rw [hH.ad hc (by show ci ≠ 16; omega)]
  refine W.putK hC.1.1 hC.1.2.1 (f := f) ⟨hC.1.2.2.2.1, hts _ hw, ⟨_, _, _, hi⟩, hst⟩ (by rw [q2]; exact h6) q1 q3 (by rw [hsl]; exact k2_hasslot (q4 j hj)) rfl rfl hd fun H' e1 e2 e3 => ?_
  rw [hsl] at e1 ⊢
  have hat : ab_at D dA bs b s a (ci, fs.set j v) H' := ⟨fun h => by have h' : ci = 16 := h; omega, fun _ => ⟨_, hq, t_OB.to (V := updV (vp_V (fs.map (ab_v bs b))) j (ab_v bs b v)) ⟨_, e1, q2, q3, t_set q4 hap hj _⟩ (fun i _ => by rw [vp_updV_set (by rw [List.length_map]; exact hl)]; show _ = vp_V ((fs.set j v).map (ab_v bs b)) i; rw [List.map_set])⟩, fun h h2 => by have h' : 10 ≤ ci := h; omega⟩
  have hp := hH.pos hc (by show ci ≠ 16; omega)
  exact kk hC (hH.set hc (by show ci ≠ 16; omega) rfl e2 e3 hat) (hS.put e2 e3 (by omega)) hL hr
theorem ab_putfinal {ci j a idx : Nat} {fs : List Value} {v : Value} {ty : FieldType} (hf : ab_fp Y.1.cls idx ci j true ty) (hin2 : Y.1.name = "<init>") (hd : decode Y.2.1 pc = .ok (.putfield idx, 3)) (hc : M[a]? = some (ci, fs)) (hl : j < fs.length) (hn : ∀ bs b, narrow ty (ab_v bs b v) = ab_v bs b v ∧ fits ty (ab_v bs b v) = true) (kk : ab_Run Y d k n (M.set a (ci, fs.set j v)) (pc + 3) ls st Q) : ab_Run Y d k n M pc ls (v :: .ref a :: st) Q := by
  intro p l e R s m args below meth c D dA bs b tc ts H locs cells slots arr Z hC hH hS hL hr
  obtain ⟨⟨C, T, N⟩, hq, hj, hw, hfin, hpd, hdecl⟩ := hf
  have hdecl := hdecl rfl
  have hci := ab_cl0 _ _ hq
  obtain ⟨hin, ⟨ty0, hty⟩, hnm⟩ := ab_cl ci _ hq
  have hts := hC.1.2.2.2.2
  have hap := va_apart (own := Y.1.cls) hts hin ty0 hty hnm hC.2.1.1 hq
  obtain ⟨r, h1, cell, q1, q2, q3, q4⟩ := (hH.2.2.2 a _ hc).2.1 hci
  have hr9 : r = (C, T, N) := Option.some.inj (h1.symm.trans hq)
  subst hr9
  obtain ⟨hS9, hfc, kC, hkC, hkind⟩ := hC.2.1.1.1 ci _ hq
  obtain ⟨cf, kf, fi, f, hi, hsl⟩ := hS9 j hj
  have hlay := hts _ (hin _ (u_in_lay hj))
  unfold u_lay at hlay
  rw [if_pos hfin] at hlay
  have hst := (u_facts hfc hkC (u_lays hts hin hj) hi).1
  have hcf : m.cls = cf := by
    obtain ⟨_, _, c', _, _, _, -, -, hf', -, -, -, hown2, -⟩ := Cond.laysFinal_spec hlay
    have e1 : c' = cf := by have := hi.symm.trans hf'; simp at this; exact this.1.symm
    rw [hdecl] at hown2
    rw [← e1]; exact Option.some.inj (hC.1.2.2.2.1.symm.trans hown2)
  have h6 := u_fits hfc hkC hkind (Or.inr hlay) hi hpd (hn bs b).1 (hn bs b).2
  show W p l e R s m args below meth c H locs cells slots Z (F0 m pc arr (ab_v bs b v :: .ref (ab_ad bs b a) :: st.map (ab_v bs b)))
  rw [hH.ad hc (by show ci ≠ 16; omega)]
  refine W.putFinK hC.1.1 hC.1.2.1 hC.1.2.2.2.1 (hts _ hw) hi hst hcf (hC.2.2.2.2.trans hin2) (by rw [q2]; exact h6) q1 q3 (by rw [hsl]; exact k2_hasslot (q4 j hj)) rfl rfl hd fun H' e1 e2 e3 => ?_
  rw [hsl] at e1 ⊢
  have hat : ab_at D dA bs b s a (ci, fs.set j v) H' := ⟨fun h => by have h' : ci = 16 := h; omega, fun _ => ⟨_, hq, t_OB.to (V := updV (vp_V (fs.map (ab_v bs b))) j (ab_v bs b v)) ⟨_, e1, q2, q3, t_set q4 hap hj _⟩ (fun i _ => by rw [vp_updV_set (by rw [List.length_map]; exact hl)]; show _ = vp_V ((fs.set j v).map (ab_v bs b)) i; rw [List.map_set])⟩, fun h h2 => by have h' : 10 ≤ ci := h; omega⟩
  have hp := hH.pos hc (by show ci ≠ 16; omega)
  exact kk hC (hH.set hc (by show ci ≠ 16; omega) rfl e2 e3 hat) (hS.put e2 e3 (by omega)) hL hr
theorem ab_getD {vs : List Value} {i : Nat} {v : Value} (h : vs[i]? = some v) : vs.getD i .null = v := by rw [List.getD_eq_getElem?_getD, h]; rfl
theorem ab_arrV_congr {cA : ClassId} {N : Nat} {f g : Nat → Value} (h : ∀ j, j < N → f j = g j) : arrV cA N f = arrV cA N g := by
  unfold arrV
  congr 1
  apply Array.ext
  · simp
  · intro j h1 h2
    simp only [Array.getElem_ofFn]
    exact h j (by simpa using h1)
/-- an index of a row -/
def ab_ix (i : Int32) (N : Nat) (j : Nat) : Prop := ¬ i < 0 ∧ i.toNatClampNeg = j ∧ j < N
theorem ab_iaload {a i : Nat} {x : Int32} {vs : List Value} {v : Value} (hd : decode Y.2.1 pc = .ok (.iaload, 1)) (hc : M[a]? = some (10, vs)) (hi : ab_ix x vs.length i) (hv : vs[i]? = some v) (kk : ab_Run Y d k n M (pc + 1) ls (v :: st) Q) : ab_Run Y d k n M pc ls (.int x :: .ref a :: st) Q := by
  intro p l e R s m args below meth c D dA bs b tc ts H locs cells slots arr Z hC hH hS hL hr
  have h1 := (hH.2.2.2 a _ hc).2.2 (Nat.le_refl 10) (by show 10 < 16; omega)
  show W p l e R s m args below meth c H locs cells slots Z (F0 m pc arr (.int x :: .ref (ab_ad bs b a) :: st.map (ab_v bs b)))
  rw [hH.ad hc (by show 10 ≠ 16; omega)]
  obtain ⟨i1, i2, i3⟩ := hi
  refine W.iald (v := ab_v bs b v) hC.1.1 hC.1.2.1 h1 ((hC.2.1.1.2 0 _ rfl).1 _ _) (fun q => by cases q) ?_ ?_ rfl rfl hd (kk hC hH hS hL hr)
  · rw [arrV_size, i2]
    rintro (h | h)
    · exact i1 h
    · exact absurd i3 (Nat.not_lt.mpr h)
  · rw [i2, arrV_read _ _ i3]
    show some (ab_v bs b (vs.getD i .null)) = _
    rw [ab_getD hv]
theorem ab_sload {i : Nat} {x : Int32} {vs : List Value} {y : Int32} (hd : decode Y.2.1 pc = .ok (.iaload, 1)) (hc : M[0]? = some (16, vs)) (hi : ab_ix x vs.length i) (hv : vs[i]? = some (.int y)) (kk : ab_Run Y d k n M (pc + 1) ls (.int y :: st) Q) : ab_Run Y d k n M pc ls (.int x :: .ref 0 :: st) Q := by
  intro p l e R s m args below meth c D dA bs b tc ts H locs cells slots arr Z hC hH hS hL hr
  obtain ⟨scr, h1, h2, h3, h4, h5⟩ := (hH.2.2.2 0 _ hc).1 rfl
  obtain ⟨i1, i2, i3⟩ := hi
  show W p l e R s m args below meth c H locs cells slots Z (F0 m pc arr (.int x :: .ref b :: st.map (ab_v bs b)))
  refine W.iald (v := .int y) hC.1.1 hC.1.2.1 h1 h2 h3 ?_ ?_ rfl rfl hd (kk hC hH hS hL hr)
  · rw [h4, i2]
    rintro (h | h)
    · exact i1 h
    · exact absurd i3 (Nat.not_lt.mpr h)
  · rw [i2, h5 i i3]
    show some (vs.getD i .null) = _
    rw [ab_getD hv]
theorem ab_slen {vs : List Value} (hd : decode Y.2.1 pc = .ok (.arraylength, 1)) (hc : M[0]? = some (16, vs)) (kk : ab_Run Y d k n M (pc + 1) ls (.int (Int32.ofNat vs.length) :: st) Q) : ab_Run Y d k n M pc ls (.ref 0 :: st) Q := by
  intro p l e R s m args below meth c D dA bs b tc ts H locs cells slots arr Z hC hH hS hL hr
  obtain ⟨scr, h1, h2, h3, h4, h5⟩ := (hH.2.2.2 0 _ hc).1 rfl
  show W p l e R s m args below meth c H locs cells slots Z (F0 m pc arr (.ref b :: st.map (ab_v bs b)))
  exact W.alen (n := Int32.ofNat vs.length) hC.1.1 hC.1.2.1 h1 h2 (by rw [h4] <;> rfl) rfl rfl hd (kk hC hH hS hL hr)
theorem ab_tys_get {dA : Nat → ClassId} {j : Nat} (h : j < 6) : ∃ ty, (ab_tys dA)[j]? = some (dA j, ty) := by
  match j, h with
  | 0, _ => exact ⟨_, rfl⟩
  | 1, _ => exact ⟨_, rfl⟩
  | 2, _ => exact ⟨_, rfl⟩
  | 3, _ => exact ⟨_, rfl⟩
  | 4, _ => exact ⟨_, rfl⟩
  | 5, _ => exact ⟨_, rfl⟩
  | n + 6, h => omega
theorem ab_tys_ref {dA : Nat → ClassId} {j : Nat} (h : 2 ≤ j) (h2 : j < 6) : ∃ ty, (ab_tys dA)[j]? = some (dA j, ty) ∧ ty.isReference = true := by
  match j, h, h2 with
  | 2, _, _ => exact ⟨_, rfl, rfl⟩
  | 3, _, _ => exact ⟨_, rfl, rfl⟩
  | 4, _, _ => exact ⟨_, rfl, rfl⟩
  | 5, _, _ => exact ⟨_, rfl, rfl⟩
  | 0, h, _ => omega
  | 1, h, _ => omega
  | n + 6, _, h => omega
theorem ab_alen {a kd : Nat} {vs : List Value} (hd : decode Y.2.1 pc = .ok (.arraylength, 1)) (hc : M[a]? = some (kd, vs)) (h10 : 10 ≤ kd) (h16 : kd < 16) (kk : ab_Run Y d k n M (pc + 1) ls (.int (Int32.ofNat vs.length) :: st) Q) : ab_Run Y d k n M pc ls (.ref a :: st) Q := by
  intro p l e R s m args below meth c D dA bs b tc ts H locs cells slots arr Z hC hH hS hL hr
  have h1 := (hH.2.2.2 a _ hc).2.2 h10 h16
  show W p l e R s m args below meth c H locs cells slots Z (F0 m pc arr (.ref (ab_ad bs b a) :: st.map (ab_v bs b)))
  rw [hH.ad hc (by show kd ≠ 16; omega)]
  obtain ⟨ty, hty⟩ := ab_tys_get (dA := dA) (j := kd - 10) (by omega)
  exact W.alen (n := Int32.ofNat vs.length) hC.1.1 hC.1.2.1 h1 ((hC.2.1.1.2 _ _ hty).1 _ _) (by rw [arrV_size] <;> rfl) rfl rfl hd (kk hC hH hS hL hr)
theorem ab_aaload {a i kd : Nat} {x : Int32} {vs : List Value} {v : Value} (hd : decode Y.2.1 pc = .ok (.aaload, 1)) (hc : M[a]? = some (kd, vs)) (h12 : 12 ≤ kd) (h16 : kd < 16) (hi : ab_ix x vs.length i) (hv : vs[i]? = some v) (kk : ab_Run Y d k n M (pc + 1) ls (v :: st) Q) : ab_Run Y d k n M pc ls (.int x :: .ref a :: st) Q := by
  intro p l e R s m args below meth c D dA bs b tc ts H locs cells slots arr Z hC hH hS hL hr
  have h1 := (hH.2.2.2 a _ hc).2.2 (by show 10 ≤ kd; omega) h16
  show W p l e R s m args below meth c H locs cells slots Z (F0 m pc arr (.int x :: .ref (ab_ad bs b a) :: st.map (ab_v bs b)))
  rw [hH.ad hc (by show kd ≠ 16; omega)]
  obtain ⟨i1, i2, i3⟩ := hi
  obtain ⟨ty, hty, href⟩ := ab_tys_ref (dA := dA) (j := kd - 10) (by omega) (by omega)
  refine W.aald (v := ab_v bs b v) (ty := ty) hC.1.1 hC.1.2.1 h1 ((hC.2.1.1.2 _ _ hty).1 _ _) href (fun q => by cases q) ?_ ?_ rfl rfl hd (kk hC hH hS hL hr)
  · rw [arrV_size, i2]
    rintro (h | h)
    · exact i1 h
    · exact absurd i3 (Nat.not_lt.mpr h)
  · rw [i2, arrV_read _ _ i3]
    show some (ab_v bs b (vs.getD i .null)) = _
    rw [ab_getD hv]
theorem ab_baload {a i : Nat} {x : Int32} {vs : List Value} {v : Value} (hd : decode Y.2.1 pc = .ok (.baload, 1)) (hc : M[a]? = some (11, vs)) (hi : ab_ix x vs.length i) (hv : vs[i]? = some v) (kk : ab_Run Y d k n M (pc + 1) ls (v :: st) Q) : ab_Run Y d k n M pc ls (.int x :: .ref a :: st) Q := by
  intro p l e R s m args below meth c D dA bs b tc ts H locs cells slots arr Z hC hH hS hL hr
  have h1 := (hH.2.2.2 a _ hc).2.2 (by show 10 ≤ 11; omega) (by show 11 < 16; omega)
  show W p l e R s m args below meth c H locs cells slots Z (F0 m pc arr (.int x :: .ref (ab_ad bs b a) :: st.map (ab_v bs b)))
  rw [hH.ad hc (by show 11 ≠ 16; omega)]
  obtain ⟨i1, i2, i3⟩ := hi
  refine W.zald (v := ab_v bs b v) hC.1.1 hC.1.2.1 h1 ((hC.2.1.1.2 1 _ rfl).1 _ _) (fun q => by cases q) ?_ ?_ rfl rfl hd (kk hC hH hS hL hr)
  · rw [arrV_size, i2]
    rintro (h | h)
    · exact i1 h
    · exact absurd i3 (Nat.not_lt.mpr h)
  · rw [i2, arrV_read _ _ i3]
    show some (ab_v bs b (vs.getD i .null)) = _
    rw [ab_getD hv]
theorem ab_set_at {D : va_G} {dA : Nat → ClassId} {bs b a i kd : Nat} {U : State} {H' : Heap} {vs : List Value} {v : Value} {cA : ClassId} (h10 : 10 ≤ kd) (h16 : kd < 16) (hl : i < vs.length) (hA : cA = dA (kd - 10)) (e1 : H'[bs + a]? = some ((arrV cA vs.length (fun j => ab_v bs b (vs.getD j .null))).setSlot i (ab_v bs b v))) : ab_at D dA bs b U a (kd, vs.set i v) H' := by
  refine ⟨fun h => by have h' : kd = 16 := h; omega, fun h => by have h' : kd < 10 := h; omega, fun _ _ => ?_⟩
  show H'[bs + a]? = some (arrV (dA (kd - 10)) (vs.set i v).length (fun j => ab_v bs b ((vs.set i v).getD j .null)))
  rw [e1, arrV_store, hA, List.length_set]
  refine congrArg some (ab_arrV_congr fun j hj => ?_)
  unfold updV
  rw [List.getD_eq_getElem?_getD, List.getElem?_set]
  by_cases e : j = i
  · subst e
    rw [if_pos rfl, if_pos rfl, if_pos hl]
    rfl
  · rw [if_neg e, if_neg (fun h => e h.symm)]
    show ab_v bs b (vs.getD j .null) = _
    rw [List.getD_eq_getElem?_getD]
theorem ab_iastore {a i : Nat} {x y : Int32} {vs : List Value} (hd : decode Y.2.1 pc = .ok (.iastore, 1)) (hc : M[a]? = some (10, vs)) (hi : ab_ix x vs.length i) (kk : ab_Run Y d k n (M.set a (10, vs.set i (.int y))) (pc + 1) ls st Q) : ab_Run Y d k n M pc ls (.int y :: .int x :: .ref a :: st) Q := by
  intro p l e R s m args below meth c D dA bs b tc ts H locs cells slots arr Z hC hH hS hL hr
  have h1 := (hH.2.2.2 a _ hc).2.2 (Nat.le_refl 10) (by show 10 < 16; omega)
  show W p l e R s m args below meth c H locs cells slots Z (F0 m pc arr (.int y :: .int x :: .ref (ab_ad bs b a) :: st.map (ab_v bs b)))
  rw [hH.ad hc (by show 10 ≠ 16; omega)]
  obtain ⟨i1, i2, i3⟩ := hi
  refine W.iast hC.1.1 hC.1.2.1 h1 ((hC.2.1.1.2 0 _ rfl).1 _ _) (fun q => by cases q) ?_ rfl rfl hd fun H' e1 e2 e3 => ?_
  · rw [arrV_size, i2]
    rintro (h | h)
    · exact i1 h
    · exact absurd i3 (Nat.not_lt.mpr h)
  · rw [i2] at e1
    have hp := hH.pos hc (by show 10 ≠ 16; omega)
    exact kk hC (hH.set hc (by show 10 ≠ 16; omega) rfl e2 e3 (ab_set_at (v := .int y) (Nat.le_refl 10) (by omega) i3 rfl e1)) (hS.put e2 e3 (by omega)) hL hr
theorem ab_bastore {a i : Nat} {x y : Int32} {vs : List Value} (hd : decode Y.2.1 pc = .ok (.bastore, 1)) (hc : M[a]? = some (11, vs)) (hi : ab_ix x vs.length i) (hy : narrow .boolean (.int y) = .int y) (kk : ab_Run Y d k n (M.set a (11, vs.set i (.int y))) (pc + 1) ls st Q) : ab_Run Y d k n M pc ls (.int y :: .int x :: .ref a :: st) Q := by
  intro p l e R s m args below meth c D dA bs b tc ts H locs cells slots arr Z hC hH hS hL hr
  have h1 := (hH.2.2.2 a _ hc).2.2 (by show 10 ≤ 11; omega) (by show 11 < 16; omega)
  show W p l e R s m args below meth c H locs cells slots Z (F0 m pc arr (.int y :: .int x :: .ref (ab_ad bs b a) :: st.map (ab_v bs b)))
  rw [hH.ad hc (by show 11 ≠ 16; omega)]
  obtain ⟨i1, i2, i3⟩ := hi
  refine W.zast hC.1.1 hC.1.2.1 h1 ((hC.2.1.1.2 1 _ rfl).1 _ _) (fun q => by cases q) ?_ rfl rfl hd fun H' e1 e2 e3 => ?_
  · rw [arrV_size, i2]
    rintro (h | h)
    · exact i1 h
    · exact absurd i3 (Nat.not_lt.mpr h)
  · rw [i2, hy] at e1
    have hp := hH.pos hc (by show 11 ≠ 16; omega)
    exact kk hC (hH.set hc (by show 11 ≠ 16; omega) rfl e2 e3 (ab_set_at (v := .int y) (by omega) (by omega) i3 rfl e1)) (hS.put e2 e3 (by omega)) hL hr
end AbMem
