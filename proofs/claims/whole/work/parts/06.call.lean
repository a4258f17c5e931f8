/-! calls -/
/-- the words of a call of an instance method, of a static one, of a constructor -/
def ab_mw (Y2 : ab_Y) (a : Nat) : Prop := Cond.initialized Y2.1.cls ∈ ab_gw ∧ Cond.code Y2.1 Y2.2.1 Y2.2.2.1 Y2.2.2.2 ∈ ab_gw ∧ (Y2.1.cls ≠ "java/lang/invoke/MethodHandle" ∧ Y2.1.cls ≠ "java/lang/invoke/VarHandle" ∧ (parseMethodDescriptor Y2.1.desc).map (fun d => d.parameters.length) = some a) ∧ Y2.2.2.1 ≤ 20
def ab_mv (own : String) (idx : Nat) (Y2 : ab_Y) (a : Nat) : Prop := Cond.methodLink own idx Y2.1 ∈ ab_gw ∧ Cond.instanceMethod Y2.1 ∈ ab_gw ∧ Cond.selects Y2.1.cls Y2.1 Y2.1 ∈ ab_gw ∧ ab_mw Y2 a
def ab_ms (own : String) (idx : Nat) (Y2 : ab_Y) (a : Nat) : Prop := Cond.methodLink own idx Y2.1 ∈ ab_gw ∧ Cond.static Y2.1 ∈ ab_gw ∧ ab_mw Y2 a
def ab_msn (own : String) (idx : Nat) (Y2 : ab_Y) (a : Nat) (host : String) : Prop := Cond.methodLinkNest own idx Y2.1 host ∈ ab_nest ∧ Cond.static Y2.1 ∈ ab_gw ∧ ab_mw Y2 a
def ab_mi (own : String) (idx : Nat) (Y2 : ab_Y) (a : Nat) : Prop := Cond.methodLink own idx Y2.1 ∈ ab_gw ∧ Cond.instanceMethod Y2.1 ∈ ab_gw ∧ Y2.1.name = "<init>" ∧ Y2.2.2.2 = none ∧ ab_mw Y2 a
theorem ab_good {w : Cond} (h : w ∈ ab_gw) : (w.onTables && w.keeps) = true ∨ ∃ ty, w = .arrayClass ty := good_of_word (List.mem_filter.mp h).2
theorem ab_goodIn {ws : List Cond} (h : ∀ w ∈ ws, w ∈ ab_gw) : GoodIn ab_gw ws := fun w hw => ⟨h w hw, ab_good (h w hw)⟩
theorem ab_wy_in {Y2 : ab_Y} {a : Nat} (h : ab_mw Y2 a) : ∀ w ∈ ab_wy Y2, w ∈ ab_gw := fun w hw => by
  rcases List.mem_cons.mp hw with rfl | hw
  · exact h.2.1
  · exact hw
section AbCall
variable {Y : ab_Y} {d k n : Nat} {M : ab_M} {pc : Nat} {ls : List (Option Value)} {st : List Value} {Q : ab_M → Option Value → Prop}
/-- behind a call -/
theorem ab_back {k2 n2 : Nat} {Q2 : ab_M → Option Value → Prop} {st0 : List Value} {a : Array Value}
    {p : Program} {l : Launch} {e : Env} {R : Room} {s : State} {m : MethodId} {args : Array Value} {below : List Frame} {meth : Method} {c : Code} {D : va_G} {dA : Nat → ClassId} {bs b tc ts : Nat} {H : Heap} {locs : List Loc} {cells slots : Nat} {arr : Array Slot} {Z : State → Prop}
    (hr0 : va_Run p l e R s m args below meth c H locs cells slots k2 n2 (F0 m pc arr st0) (st.map (ab_v bs b)) (ab_Qc D dA bs b Q2 a) (fun q => bs < q))
    (kk : ∀ M' r, Q2 M' r → ab_Run Y d k n M' (pc + 3) ls (r.toList ++ st) Q)
    (hC : ab_Cx Y d (k2 + k) (n2 + n) tc ts D dA bs p R s m args meth c cells slots) (hS : va_S (fun q => bs < q) s.heap H locs) (hL : ab_L bs b arr Y.2.2.1 ls)
    (hr : ∀ (M' : ab_M) (r : Option Value) (H' : Heap) (locs' : List Loc) (pc' : Nat) (arr' : Array Slot), ab_isret Y r pc' → ab_H D dA bs b M' s H' → va_S (fun q => bs < q) s.heap H' locs' → Q M' r → W p l e R s m args below meth c H' locs' tc ts Z (F0 m pc' arr' (r.toList.map (ab_v bs b)))) :
    W p l e R s m args below meth c H locs cells slots Z (F0 m pc arr st0) := by
  intro T hT X
  obtain ⟨v, st₀, t, T', L, h0, X', hL9, e1, e2, ⟨⟨M', r, hv, hq, hH'⟩, hz, hk⟩, step⟩ := hr0 T hT X
  cases hv
  rw [h0] at hz hk
  have hH2 : ab_H D dA bs b M' s T'.heap := by
    rw [e1]
    exact hH'.moved (by rw [← e2]; exact X'.warmed.alike.symm)
  have hS2 : va_S (fun q => bs < q) s.heap T'.heap (locs ++ L) := by
    rw [e1]
    refine ⟨Nat.le_trans hS.1 hz, fun q h1 h2 => ?_, fun q hq9 => ?_⟩
    · rw [hk q (Nat.lt_of_lt_of_le h1 hS.1) h2]
      exact hS.2.1 q h1 h2
    · rcases List.mem_append.mp hq9 with h | h
      · exact hS.2.2 q h
      · exact hL9 q h
  have hC2 : ab_Cx Y d k n tc ts D dA bs p R s m args meth c (cells + k2) (slots + n2) := by
    obtain ⟨c1, c2, c3, c4⟩ := hC
    exact ⟨c1, c2, ⟨c3.1, c3.2.1, by omega, by omega, c3.2.2.2.2.1, c3.2.2.2.2.2⟩, c4⟩
  have hW := kk M' r hq hC2 hH2 hS2 hL hr
  have e3 : (r.toList ++ st).map (ab_v bs b) = (r.map (ab_v bs b)).toList ++ st.map (ab_v bs b) := by cases r <;> rfl
  rw [e3] at hW
  obtain ⟨t2, a1, b1⟩ := hW T' rfl X'
  exact ⟨t2, step t2 a1, b1⟩
theorem ab_pre {D : va_G} {dA : Nat → ClassId} {bs b : Nat} {av : List Value} {s : State} {H : Heap} {locs : List Loc} (hK : ab_K D dA s) (hbs : bs < s.heap.size) (hH : ab_H D dA bs b M s H) (hS : va_S (fun q => bs < q) s.heap H locs) : ∀ U : State, U.heap = H → s.WarmedH U.vm → ab_Pc D dA bs b M av (av.map (ab_v bs b)).toArray U := fun U hU hW =>
  ⟨rfl, by rw [hU]; exact Nat.lt_of_lt_of_le hbs hS.1, hK.moved hW, by rw [hU]; exact hH.moved hW.alike⟩
theorem ab_rest {m : MethodId} {pc : Nat} {arr : Array Slot} {st0 : List Value} {bs b : Nat} (h : (st.map fun v => v.category).sum ≤ 8) : 2 * (F0 m pc arr st0).monitorRoom + ((st.map (ab_v bs b)).map fun v => v.category).sum ≤ 8 := by
  refine lv_room (m := m) (pc := pc) (ls := arr) (rest := st0) ?_
  rw [List.map_map]
  have : (fun v : Value => v.category) ∘ ab_v bs b = fun v => v.category := funext fun v => ab_v_cat bs b v
  rw [this]
  exact h
theorem ab_invV {Y2 : ab_Y} {d2 k2 n2 a nA idx ci : Nat} {As fs : List Value} {q : vw_C} {Q2 : ab_M → Option Value → Prop} (hw : ab_mv Y.1.cls idx Y2 nA) (hd : decode Y.2.1 pc = .ok (.invokevirtual idx, 3)) (hc : M[a]? = some (ci, fs)) (hq : vwCl[ci]? = some q) (hqc : q.1 = Y2.1.cls) (hn : As.length = nA) (hst : (st.map fun v => v.category).sum ≤ 8) (hdd : d2 + 1 ≤ d) (hCall : ab_Call Y2 d2 k2 n2 M (.ref a :: As) Q2)
    (kk : ∀ M' r, Q2 M' r → ab_Run Y d k n M' (pc + 3) ls (r.toList ++ st) Q) : ab_Run Y d (k2 + k) (n2 + n) M pc ls (As.reverse ++ .ref a :: st) Q := by
  intro p l e R s m args below meth c D dA bs b tc ts H locs cells slots arr Z hC hH hS hL hr
  obtain ⟨w1, w2, w3, w4⟩ := hw
  have hci := ab_cl0 _ _ hq
  have hts := hC.1.2.2.2.2
  have hb3 := hC.2.2.1
  have hml4 := w4.2.2.2
  rw [show (As.reverse ++ .ref a :: st).map (ab_v bs b) = (As.map (ab_v bs b)).reverse ++ .ref (ab_ad bs b a) :: st.map (ab_v bs b) by simp [ab_v_ref]]
  have hcw : CallW R s args Y.1.cls Y2.1.cls idx Y2.1 Y2.2.1 Y2.2.2.1 Y2.2.2.2 (ab_wy Y2) (ab_rm d2 k2 n2) k2 n2 nA := by
    refine cwV nA hts (ab_goodIn ?_) rfl rfl rfl ⟨rfl, w4.2.2.1⟩ ⟨by show d2 + 1 ≤ _; omega, by show 8 + (Y2.2.2.1 + 11) + 40 * d2 ≤ R.locals; omega⟩
    intro w hw9
    unfold wsV at hw9
    rcases List.mem_append.mp hw9 with h | h
    · simp only [List.mem_cons, List.not_mem_nil, or_false] at h
      rcases h with rfl | rfl | rfl | rfl
      · exact w1
      · exact w2
      · exact w3
      · exact w4.1
    · exact ab_wy_in w4 w h
  have hrun := va_runV (l := l) (e := e) (below := below) (meth := meth) (locs := locs) (cells := cells) (slots := slots) (As := As.map (ab_v bs b)) (rest := st.map (ab_v bs b)) (b := ab_ad bs b a) (H := H)
    (g := F0 m pc arr ((As.map (ab_v bs b)).reverse ++ .ref (ab_ad bs b a) :: st.map (ab_v bs b))) ⟨hC.1.1, hC.1.2.1, hC.1.2.2.1, hC.1.2.2.2.1, hts⟩ (hCall l D dA bs b) hcw
    ⟨ab_Pc.blind, ?_, ab_pre hC.2.1 hC.2.2.2.1 hH hS⟩ rfl (by rw [List.length_map]; exact hn) hL.1 rfl (ab_rest hst) hd ⟨by omega, by omega⟩
  · exact ab_back hrun kk hC hS hL hr
  · obtain ⟨r9, h1, cell, q1, q2, q3, -⟩ := (hH.2.2.2 a _ hc).2.1 hci
    rw [hH.ad hc (by show ci ≠ 16; omega)]
    refine ⟨cell, q1, by rw [q3]; rfl, ?_⟩
    rw [q2, ← hqc]
    exact (hC.2.1.1.1 ci _ hq).2.1
theorem ab_invS {Y2 : ab_Y} {d2 k2 n2 nA idx : Nat} {As : List Value} {Q2 : ab_M → Option Value → Prop} (hw : ab_ms Y.1.cls idx Y2 nA) (hd : decode Y.2.1 pc = .ok (.invokestatic idx, 3)) (hn : As.length = nA) (hst : (st.map fun v => v.category).sum ≤ 8) (hdd : d2 + 1 ≤ d) (hCall : ab_Call Y2 d2 k2 n2 M As Q2)
    (kk : ∀ M' r, Q2 M' r → ab_Run Y d k n M' (pc + 3) ls (r.toList ++ st) Q) : ab_Run Y d (k2 + k) (n2 + n) M pc ls (As.reverse ++ st) Q := by
  intro p l e R s m args below meth c D dA bs b tc ts H locs cells slots arr Z hC hH hS hL hr
  obtain ⟨w1, w2, w4⟩ := hw
  have hts := hC.1.2.2.2.2
  have hb3 := hC.2.2.1
  have hml4 := w4.2.2.2
  rw [show (As.reverse ++ st).map (ab_v bs b) = (As.map (ab_v bs b)).reverse ++ st.map (ab_v bs b) by simp]
  have hcw : CallB R s args Y.1.cls idx Y2.1 Y2.2.1 Y2.2.2.1 Y2.2.2.2 (ab_wy Y2) (ab_rm d2 k2 n2) k2 n2 nA ∧ (Cond.static Y2.1).before args s = true := by
    refine va_cwS nA hts (ab_goodIn ?_) rfl rfl rfl w4.2.2.1 ⟨by show d2 + 1 ≤ _; omega, by show 8 + (Y2.2.2.1 + 11) + 40 * d2 ≤ R.locals; omega⟩
    intro w hw9
    unfold va_wsS at hw9
    rcases List.mem_append.mp hw9 with h | h
    · simp only [List.mem_cons, List.not_mem_nil, or_false] at h
      rcases h with rfl | rfl | rfl
      · exact w1
      · exact w2
      · exact w4.1
    · exact ab_wy_in w4 w h
  have hrun := va_runS (l := l) (e := e) (below := below) (meth := meth) (locs := locs) (cells := cells) (slots := slots) (As := As.map (ab_v bs b)) (rest := st.map (ab_v bs b)) (H := H)
    (g := F0 m pc arr ((As.map (ab_v bs b)).reverse ++ st.map (ab_v bs b))) ⟨hC.1.1, hC.1.2.1, hC.1.2.2.1, hC.1.2.2.2.1, hts⟩ (hCall l D dA bs b) hcw
    ⟨ab_Pc.blind, ab_pre hC.2.1 hC.2.2.2.1 hH hS⟩ rfl (by rw [List.length_map]; exact hn) hL.1 rfl (ab_rest hst) hd ⟨by omega, by omega⟩
  exact ab_back hrun kk hC hS hL hr
theorem ab_invSN {Y2 : ab_Y} {d2 k2 n2 nA idx : Nat} {host : String} {As : List Value} {Q2 : ab_M → Option Value → Prop} (hw : ab_msn Y.1.cls idx Y2 nA host) (hd : decode Y.2.1 pc = .ok (.invokestatic idx, 3)) (hn : As.length = nA) (hst : (st.map fun v => v.category).sum ≤ 8) (hdd : d2 + 1 ≤ d) (hCall : ab_Call Y2 d2 k2 n2 M As Q2)
    (kk : ∀ M' r, Q2 M' r → ab_Run Y d k n M' (pc + 3) ls (r.toList ++ st) Q) : ab_Run Y d (k2 + k) (n2 + n) M pc ls (As.reverse ++ st) Q := by
  intro p l e R s m args below meth c D dA bs b tc ts H locs cells slots arr Z hC hH hS hL hr
  obtain ⟨w1, w2, w4⟩ := hw
  have hts := hC.1.2.2.2.2
  have hb3 := hC.2.2.1
  have hml4 := w4.2.2.2
  rw [show (As.reverse ++ st).map (ab_v bs b) = (As.map (ab_v bs b)).reverse ++ st.map (ab_v bs b) by simp]
  have hcw : va_CN R s args Y.1.cls idx Y2.1 host Y2.2.1 Y2.2.2.1 Y2.2.2.2 (ab_wy Y2) (ab_rm d2 k2 n2) k2 n2 nA ∧ (Cond.static Y2.1).before args s = true ∧ True := by
    refine ⟨va_cnB nA hts (ab_goodIn (ab_wy_in w4)) rfl rfl rfl (hC.2.1.2.1 _ w1) (hts _ w4.1) w4.2.2.1 ⟨by show d2 + 1 ≤ _; omega, by show 8 + (Y2.2.2.1 + 11) + 40 * d2 ≤ R.locals; omega⟩, hts _ w2, trivial⟩
  have hrun := va_runSN (l := l) (e := e) (below := below) (meth := meth) (locs := locs) (cells := cells) (slots := slots) (As := As.map (ab_v bs b)) (rest := st.map (ab_v bs b)) (H := H)
    (g := F0 m pc arr ((As.map (ab_v bs b)).reverse ++ st.map (ab_v bs b))) ⟨hC.1.1, hC.1.2.1, hC.1.2.2.1, hC.1.2.2.2.1, hts⟩ (hCall l D dA bs b) hcw
    ⟨ab_Pc.blind, ab_pre hC.2.1 hC.2.2.2.1 hH hS⟩ rfl (by rw [List.length_map]; exact hn) hL.1 rfl (ab_rest hst) hd ⟨by omega, by omega⟩
  exact ab_back hrun kk hC hS hL hr
theorem ab_invI {Y2 : ab_Y} {d2 k2 n2 a nA idx : Nat} {As : List Value} {Q2 : ab_M → Option Value → Prop} (hw : ab_mi Y.1.cls idx Y2 nA) (hd : decode Y.2.1 pc = .ok (.invokespecial idx, 3)) (hn : As.length = nA) (hst : (st.map fun v => v.category).sum ≤ 8) (hdd : d2 + 1 ≤ d) (hCall : ab_Call Y2 d2 k2 n2 M (.ref a :: As) Q2)
    (kk : ∀ M' r, Q2 M' r → ab_Run Y d k n M' (pc + 3) ls (r.toList ++ st) Q) : ab_Run Y d (k2 + k) (n2 + n) M pc ls (As.reverse ++ .ref a :: st) Q := by
  intro p l e R s m args below meth c D dA bs b tc ts H locs cells slots arr Z hC hH hS hL hr
  obtain ⟨w1, w2, w3, w5, w4⟩ := hw
  have hts := hC.1.2.2.2.2
  have hb3 := hC.2.2.1
  have hml4 := w4.2.2.2
  rw [show (As.reverse ++ .ref a :: st).map (ab_v bs b) = (As.map (ab_v bs b)).reverse ++ .ref (ab_ad bs b a) :: st.map (ab_v bs b) by simp [ab_v_ref]]
  have hcw : CallB R s args Y.1.cls idx Y2.1 Y2.2.1 Y2.2.2.1 none (ab_wy Y2) (ab_rm d2 k2 n2) k2 n2 nA ∧ Y2.1.name = "<init>" ∧ (Cond.instanceMethod Y2.1).before args s = true := by
    refine cwI (ws' := ab_gw) nA hts (ab_goodIn (ab_wy_in w4)) (by unfold ab_wy; rw [w5]) rfl rfl (hts _ w4.1) (hts _ w1) (hts _ w2) w3 w4.2.2.1 ⟨by show d2 + 1 ≤ _; omega, by show 8 + (Y2.2.2.1 + 11) + 40 * d2 ≤ R.locals; omega⟩
  have hrun := va_runI (l := l) (e := e) (below := below) (meth := meth) (locs := locs) (cells := cells) (slots := slots) (As := As.map (ab_v bs b)) (rest := st.map (ab_v bs b)) (b := ab_ad bs b a) (H := H)
    (g := F0 m pc arr ((As.map (ab_v bs b)).reverse ++ .ref (ab_ad bs b a) :: st.map (ab_v bs b))) ⟨hC.1.1, hC.1.2.1, hC.1.2.2.1, hC.1.2.2.2.1, hts⟩ (hCall l D dA bs b) hcw
    ⟨ab_Pc.blind, ab_pre hC.2.1 hC.2.2.2.1 hH hS⟩ rfl (by rw [List.length_map]; exact hn) hL.1 rfl (ab_rest hst) hd ⟨by omega, by omega⟩
  exact ab_back hrun kk hC hS hL hr
theorem ab_objInit {a idx : Nat} (w1 : Cond.methodLink Y.1.cls idx objectInit ∈ ab_gw) (w2 : Cond.instanceMethod objectInit ∈ ab_gw) (w3 : Cond.code objectInit ⟨#[0xb1]⟩ 1 none ∈ ab_gw) (hd : decode Y.2.1 pc = .ok (.invokespecial idx, 3)) (hdd : 1 ≤ d) (hst : (st.map fun v => v.category).sum ≤ 8) (kk : ab_Run Y d k n M (pc + 3) ls st Q) : ab_Run Y d k n M pc ls (.ref a :: st) Q := by
  intro p l e R s m args below meth c D dA bs b tc ts H locs cells slots arr Z hC hH hS hL hr
  have hb3 := hC.2.2.1
  have hts := hC.1.2.2.2.2
  have h8 := ab_rest (st := st) (m := m) (pc := pc) (arr := arr) (st0 := .ref (ab_ad bs b a) :: st.map (ab_v bs b)) (bs := bs) (b := b) hst
  exact W.objInit hC.1.1 hC.1.2.1 hC.1.2.2.2.1 (hts _ w1) (hts _ w2) (hts _ w3) (g := F0 m pc arr (.ref (ab_ad bs b a) :: st.map (ab_v bs b))) rfl (by rw [hC.1.2.2.1]; exact hL.1) rfl hd (by omega) (by omega) (kk hC hH hS hL hr)
end AbCall
