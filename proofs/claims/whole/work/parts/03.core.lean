/-! THE ABSTRACT MACHINE: memory is a list of cells (kind, contents) whose references are places of that list; place 0 is the law's script -/
abbrev ab_C : Type := Nat × List Value
abbrev ab_M : Type := List ab_C
/-- a method: name, code, locals, what it returns -/
abbrev ab_Y : Type := MethodName × ByteArray × Nat × Option FieldType
def ab_ad (bs b k : Nat) : Nat := if k = 0 then b else bs + k
def ab_v (bs b : Nat) (v : Value) : Value := match v with
  | .ref k => .ref (ab_ad bs b k)
  | v => v
theorem ab_v_int (bs b : Nat) (x : Int32) : ab_v bs b (.int x) = .int x := rfl
theorem ab_v_long (bs b : Nat) (x : Int64) : ab_v bs b (.long x) = .long x := rfl
theorem ab_v_null (bs b : Nat) : ab_v bs b .null = .null := rfl
theorem ab_v_ref (bs b k : Nat) : ab_v bs b (.ref k) = .ref (ab_ad bs b k) := rfl
theorem ab_v_cat (bs b : Nat) (v : Value) : (ab_v bs b v).category = v.category := by cases v <;> rfl
def ab_gw : List Cond := lw_tbl.filter goodWord
def ab_wy (Y : ab_Y) : List Cond := Cond.code Y.1 Y.2.1 Y.2.2.1 Y.2.2.2 :: ab_gw
theorem ab_gw_of {w : Cond} (i : Nat) (h : lw_tbl[i]? = some w) (hg : goodWord w = true) : w ∈ ab_gw := List.mem_filter.mpr ⟨List.mem_of_getElem? h, hg⟩
def ab_nest : List Cond := [.methodLinkNest RX2 23 yX8_isIn RX8, .methodLinkNest RX0 89 yX8_greatestLoad RX8, .methodLinkNest RX4 93 yX8_greatestLoad RX8]
def ab_tys (dA : Nat → ClassId) : List (ClassId × FieldType) := [(dA 0, .int), (dA 1, .boolean), (dA 2, .object RX5), (dA 3, .object RX6), (dA 4, .object RX0), (dA 5, .array .int)]
def ab_K (D : va_G) (dA : Nat → ClassId) (U : State) : Prop := va_K D vwCl (ab_tys dA) U ∧ (∀ w ∈ ab_nest, va_Nw w U) ∧ va_AO RX5 U ∧ va_AO RX6 U ∧ va_AO RX0 U ∧ va_AOA .int U
theorem ab_AOA_moved {ty : FieldType} {u U : State} (hvm : u.vm.Alike U.vm) (h : va_AOA ty u) : va_AOA ty U := by
  obtain ⟨comp, c, k, h1, h2, h3, h4, h5⟩ := arrayOverA_spec h
  obtain ⟨k', hk', he⟩ := hvm.2.2 _ _ h3
  have hi : (U.vm.classes.findIdx? fun (x : Class) => match x.kind with | .array component _ => component == comp | _ => false) = some c := by
    rw [hvm.findIdx?_eq _ (fun _ => rfl)]
    exact h2
  have hkind : k'.kind = .array comp (.array ty) := by rw [he]; exact h4
  have f1 : U.vm.findClass (FieldType.array ty).toString = some comp := by rw [hvm.findClass]; exact h1
  have f2 : U.vm.findClass ("[" ++ (FieldType.array ty).toString) = some c := by rw [hvm.findClass]; exact h5
  unfold va_AOA Cond.before Cond.holds
  simp only [Cond.value]
  rw [f1, Option.bind_some]
  refine (congrArg (fun o : Option Nat => (o.bind (fun c => (U.vm.classes[c]?).map fun (k : Class) => match k.kind with | .array _ ty' => decide (ty' = FieldType.array ty) && decide (U.vm.findClass ("[" ++ (FieldType.array ty).toString) = some c) | _ => false) == some true)) hi).trans ?_
  simp [hk', hkind, f2]
theorem ab_nest0 : Cond.methodLinkNest RX2 23 yX8_isIn RX8 ∈ ab_nest := List.mem_cons_self
theorem ab_nest1 : Cond.methodLinkNest RX0 89 yX8_greatestLoad RX8 ∈ ab_nest := List.mem_cons_of_mem _ List.mem_cons_self
theorem ab_nest2 : Cond.methodLinkNest RX4 93 yX8_greatestLoad RX8 ∈ ab_nest := List.mem_cons_of_mem _ (List.mem_cons_of_mem _ List.mem_cons_self)
theorem ab_nest_cases {P : Cond → Prop} (h0 : P (.methodLinkNest RX2 23 yX8_isIn RX8)) (h1 : P (.methodLinkNest RX0 89 yX8_greatestLoad RX8)) (h2 : P (.methodLinkNest RX4 93 yX8_greatestLoad RX8)) : ∀ w ∈ ab_nest, P w := by
  intro w hw
  unfold ab_nest at hw
  simp only [List.mem_cons, List.not_mem_nil, or_false] at hw
  rcases hw with rfl | rfl | rfl
  · exact h0
  · exact h1
  · exact h2
theorem ab_K.moved {D : va_G} {dA : Nat → ClassId} {s U : State} (hW : s.WarmedH U.vm) (h : ab_K D dA s) : ab_K D dA U := by
  obtain ⟨h1, h2, h3, h4, h5, h6⟩ := h
  have hal : s.vm.Alike U.vm := hW.alike
  refine ⟨h1.moved hal, ?_, h3.moved hal, h4.moved hal, h5.moved hal, ab_AOA_moved hal h6⟩
  exact ab_nest_cases (va_Nw.warmM hW (h2 _ ab_nest0)) (va_Nw.warmM hW (h2 _ ab_nest1)) (va_Nw.warmM hW (h2 _ ab_nest2))
theorem ab_K.blind {D : va_G} {dA : Nat → ClassId} {U : State} (g : JFrame) (mk : MethodId) (a : Array Value) (h : ab_K D dA U) : ab_K D dA (U.calling g mk a) := by
  obtain ⟨h1, h2, h3, h4, h5, h6⟩ := h
  have hal : U.vm.Alike (U.calling g mk a).vm := Vm.Alike.refl U.vm
  refine ⟨h1.moved hal, ?_, h3.moved hal, h4.moved hal, h5.moved hal, ab_AOA_moved hal h6⟩
  exact ab_nest_cases (va_Nw.same rfl rfl (h2 _ ab_nest0)) (va_Nw.same rfl rfl (h2 _ ab_nest1)) (va_Nw.same rfl rfl (h2 _ ab_nest2))
/-- a cell of the memory in the heap -/
def ab_at (D : va_G) (dA : Nat → ClassId) (bs b : Nat) (U : State) (k : Nat) (c : ab_C) (H : Heap) : Prop :=
  (c.1 = 16 → ∃ scr : Cell, H[b]? = some scr ∧ U.isArrayOf scr .int ∧ scr.vm ≠ .unknown ∧ scr.slots.size = c.2.length ∧ ∀ j : Nat, j < c.2.length → scr.slots[j]? = some (c.2.getD j .null)) ∧
  (c.1 < 10 → ∃ r : vw_C, vwCl[c.1]? = some r ∧ t_OB (bs + k) (D.1 c.1) r.2.2 (D.2 c.1) H (vp_V (c.2.map (ab_v bs b)))) ∧
  (10 ≤ c.1 → c.1 < 16 → H[bs + k]? = some (arrV (dA (c.1 - 10)) c.2.length (fun j => ab_v bs b (c.2.getD j .null))))
def ab_H (D : va_G) (dA : Nat → ClassId) (bs b : Nat) (M : ab_M) (U : State) (H : Heap) : Prop :=
  H.size = bs + M.length ∧ b ≤ bs ∧ (∃ xs, M[0]? = some (16, xs)) ∧ ∀ (k : Nat) (c : ab_C), M[k]? = some c → ab_at D dA bs b U k c H
theorem ab_at.moved {D : va_G} {dA : Nat → ClassId} {bs b k : Nat} {c : ab_C} {u U : State} {H : Heap} (hvm : u.vm.Alike U.vm) (h : ab_at D dA bs b u k c H) : ab_at D dA bs b U k c H := by
  obtain ⟨h1, h2, h3⟩ := h
  refine ⟨fun e => ?_, h2, h3⟩
  obtain ⟨scr, a1, a2, a3⟩ := h1 e
  exact ⟨scr, a1, State.isArrayOf_alike hvm a2, a3⟩
theorem ab_H.moved {D : va_G} {dA : Nat → ClassId} {bs b : Nat} {M : ab_M} {u U : State} {H : Heap} (hvm : u.vm.Alike U.vm) (h : ab_H D dA bs b M u H) : ab_H D dA bs b M U H :=
  ⟨h.1, h.2.1, h.2.2.1, fun k c hk => (h.2.2.2 k c hk).moved hvm⟩
theorem ab_at.kept {D : va_G} {dA : Nat → ClassId} {bs b k : Nat} {c : ab_C} {U : State} {H H1 : Heap} (h : ab_at D dA bs b U k c H) (hb : H1[b]? = H[b]?) (hk : c.1 ≠ 16 → H1[bs + k]? = H[bs + k]?) : ab_at D dA bs b U k c H1 := by
  obtain ⟨h1, h2, h3⟩ := h
  refine ⟨fun e => ?_, fun e => ?_, fun e e2 => ?_⟩
  · obtain ⟨scr, a1, a2⟩ := h1 e
    exact ⟨scr, by rw [hb]; exact a1, a2⟩
  · obtain ⟨r, a1, a2⟩ := h2 e
    exact ⟨r, a1, a2.kept (hk (by omega))⟩
  · rw [hk (by omega)]
    exact h3 e e2
theorem ab_H.pos {D : va_G} {dA : Nat → ClassId} {bs b k : Nat} {M : ab_M} {U : State} {H : Heap} {c : ab_C} (h : ab_H D dA bs b M U H) (hk : M[k]? = some c) (hc : c.1 ≠ 16) : k ≠ 0 := by
  intro e
  subst e
  obtain ⟨xs, hx⟩ := h.2.2.1
  rw [hx] at hk
  cases hk
  exact hc rfl
theorem ab_H.ad {D : va_G} {dA : Nat → ClassId} {bs b k : Nat} {M : ab_M} {U : State} {H : Heap} {c : ab_C} (h : ab_H D dA bs b M U H) (hk : M[k]? = some c) (hc : c.1 ≠ 16) : ab_ad bs b k = bs + k := if_neg (h.pos hk hc)
theorem ab_H.set {D : va_G} {dA : Nat → ClassId} {bs b k : Nat} {M : ab_M} {U : State} {H H1 : Heap} {c c1 : ab_C} (h : ab_H D dA bs b M U H) (hk : M[k]? = some c) (hc : c.1 ≠ 16) (hc1 : c1.1 = c.1) (z : H1.size = H.size) (oq : ∀ q, q ≠ bs + k → H1[q]? = H[q]?) (hat : ab_at D dA bs b U k c1 H1) : ab_H D dA bs b (M.set k c1) U H1 := by
  have hp := h.pos hk hc
  obtain ⟨h1, h2, ⟨xs, h3⟩, h4⟩ := h
  refine ⟨by rw [z, h1, List.length_set], h2, ⟨xs, by rw [List.getElem?_set_ne (by omega)]; exact h3⟩, fun j e hj => ?_⟩
  by_cases hjk : k = j
  · subst hjk
    have hl : k < M.length := (List.getElem?_eq_some_iff.mp hk).1
    rw [List.getElem?_set_self hl] at hj
    cases hj
    exact hat
  · rw [List.getElem?_set_ne hjk] at hj
    exact (h4 j e hj).kept (oq b (by omega)) (fun _ => oq _ (by omega))
theorem ab_H.push {D : va_G} {dA : Nat → ClassId} {bs b : Nat} {M : ab_M} {U : State} {H H1 : Heap} {c1 : ab_C} (h : ab_H D dA bs b M U H) (z : H1.size = H.size + 1) (oq : ∀ q, q < H.size → H1[q]? = H[q]?) (hat : ab_at D dA bs b U M.length c1 H1) : ab_H D dA bs b (M ++ [c1]) U H1 := by
  obtain ⟨h1, h2, ⟨xs, h3⟩, h4⟩ := h
  have hl : 0 < M.length := (List.getElem?_eq_some_iff.mp h3).1
  refine ⟨by rw [z, h1, List.length_append]; rfl, h2, ⟨xs, by rw [List.getElem?_append_left hl]; exact h3⟩, fun j e hj => ?_⟩
  by_cases hjk : j < M.length
  · rw [List.getElem?_append_left hjk] at hj
    exact (h4 j e hj).kept (oq b (by omega)) (fun _ => oq _ (by omega))
  · rw [List.getElem?_append_right (by omega)] at hj
    have hz : j - M.length < 1 := (List.getElem?_eq_some_iff.mp hj).1
    have e0 : j = M.length := by omega
    subst e0
    rw [Nat.sub_self] at hj
    cases hj
    exact hat
/-- the locals -/
def ab_L (bs b : Nat) (arr : Array Slot) (nL : Nat) (ls : List (Option Value)) : Prop := arr.size = nL ∧ lv_wf arr ∧ ∀ (i : Nat) (v : Value), ls[i]? = some (some v) → arr[i]? = some (.val (ab_v bs b v))
def ab_lv (bs b : Nat) (ls : List (Option Value)) : List (Nat × Value) := (List.range ls.length).filterMap (fun i => (ls[i]?).bind (fun o => o.map (fun v => (i, ab_v bs b v))))
theorem ab_lv_mem {bs b : Nat} {ls : List (Option Value)} {q : Nat × Value} : q ∈ ab_lv bs b ls ↔ ∃ v, ls[q.1]? = some (some v) ∧ q.2 = ab_v bs b v := by
  unfold ab_lv
  rw [List.mem_filterMap]
  constructor
  · rintro ⟨i, hi, h⟩
    cases ho : ls[i]? with
    | none => rw [ho] at h; cases h
    | some o =>
      rw [ho] at h
      cases o with
      | none => cases h
      | some v =>
        cases h
        exact ⟨v, ho, rfl⟩
  · rintro ⟨v, h1, h2⟩
    refine ⟨q.1, List.mem_range.mpr (List.getElem?_eq_some_iff.mp h1).1, ?_⟩
    rw [h1]
    show some (q.1, ab_v bs b v) = some q
    rw [← h2]
theorem ab_L.has {bs b : Nat} {arr : Array Slot} {nL : Nat} {ls : List (Option Value)} (h : ab_L bs b arr nL ls) : lv_has arr nL (ab_lv bs b ls) :=
  ⟨h.1, h.2.1, fun q hq => by
    obtain ⟨v, h1, h2⟩ := ab_lv_mem.mp hq
    rw [h.2.2 _ _ h1, h2]⟩
/-- a long that would lose its second half is forgotten -/
def ab_kill (ls : List (Option Value)) (i : Nat) : List (Option Value) := match i with
  | 0 => ls
  | j + 1 => match ls[j]? with
    | some (some v) => if v.category = 2 then ls.set j none else ls
    | _ => ls
def ab_set (ls : List (Option Value)) (i : Nat) (v : Value) : List (Option Value) := (ab_kill ls i).set i (some v)
def ab_set2 (ls : List (Option Value)) (i : Nat) (v : Value) : List (Option Value) := ((ab_kill ls i).set i (some v)).set (i + 1) none
theorem ab_kill_get {ls : List (Option Value)} {i j : Nat} {w : Value} (h : (ab_kill ls i)[j]? = some (some w)) : ls[j]? = some (some w) ∧ (j + 1 = i → w.category ≠ 2) := by
  unfold ab_kill at h
  cases i with
  | zero => exact ⟨h, fun e => by omega⟩
  | succ i =>
    dsimp only at h
    cases ho : ls[i]? with
    | none =>
      rw [ho] at h
      refine ⟨h, fun e => ?_⟩
      have : j = i := by omega
      subst this
      rw [ho] at h
      cases h
    | some o =>
      rw [ho] at h
      cases o with
      | none =>
        refine ⟨h, fun e => ?_⟩
        have : j = i := by omega
        subst this
        rw [ho] at h
        cases h
      | some v =>
        dsimp only at h
        by_cases hc : v.category = 2
        · rw [if_pos hc] at h
          by_cases e : i = j
          · subst e
            have hl : i < ls.length := (List.getElem?_eq_some_iff.mp ho).1
            rw [List.getElem?_set_self hl] at h
            cases h
          · rw [List.getElem?_set_ne e] at h
            exact ⟨h, fun e2 => by omega⟩
        · rw [if_neg hc] at h
          refine ⟨h, fun e => ?_⟩
          have : j = i := by omega
          subst this
          rw [ho] at h
          cases h
          exact hc
theorem ab_L.set {bs b : Nat} {arr' : Array Slot} {nL i : Nat} {ls : List (Option Value)} {v : Value} (h' : lv_has arr' nL ((i, ab_v bs b v) :: (ab_lv bs b ls).filter (fun q => !(q.1 == i) && !(q.1 + 1 == i && q.2.category == 2)))) : ab_L bs b arr' nL (ab_set ls i v) := by
  refine ⟨h'.1, h'.2.1, fun j w hj => ?_⟩
  unfold ab_set at hj
  by_cases e : i = j
  · subst e
    by_cases hl : i < (ab_kill ls i).length
    · rw [List.getElem?_set_self hl] at hj
      cases hj
      exact h'.2.2 _ List.mem_cons_self
    · rw [List.getElem?_eq_none (by rw [List.length_set]; omega)] at hj
      cases hj
  · rw [List.getElem?_set_ne e] at hj
    obtain ⟨h1, h2⟩ := ab_kill_get hj
    refine h'.2.2 (j, ab_v bs b w) (List.mem_cons_of_mem _ (List.mem_filter.mpr ⟨ab_lv_mem.mpr ⟨w, h1, rfl⟩, ?_⟩))
    have e1 : (j == i) = false := by rw [beq_eq_false_iff_ne]; exact fun q => e q.symm
    by_cases e2 : j + 1 = i
    · have := h2 e2
      simp [e1, ab_v_cat, this]
    · simp [e1, e2]
theorem ab_L.set2 {bs b : Nat} {arr' : Array Slot} {nL i : Nat} {ls : List (Option Value)} {v : Value} (h' : lv_has arr' nL ((i, ab_v bs b v) :: (ab_lv bs b ls).filter (fun q => !(q.1 == i) && (!(q.1 == i + 1) && !(q.1 + 1 == i && q.2.category == 2))))) : ab_L bs b arr' nL (ab_set2 ls i v) := by
  refine ⟨h'.1, h'.2.1, fun j w hj => ?_⟩
  unfold ab_set2 at hj
  by_cases e0 : i + 1 = j
  · subst e0
    by_cases hl : i + 1 < ((ab_kill ls i).set i (some v)).length
    · rw [List.getElem?_set_self hl] at hj
      cases hj
    · rw [List.getElem?_eq_none (by rw [List.length_set]; omega)] at hj
      cases hj
  · rw [List.getElem?_set_ne e0] at hj
    by_cases e : i = j
    · subst e
      by_cases hl : i < (ab_kill ls i).length
      · rw [List.getElem?_set_self hl] at hj
        cases hj
        exact h'.2.2 _ List.mem_cons_self
      · rw [List.getElem?_eq_none (by rw [List.length_set]; omega)] at hj
        cases hj
    · rw [List.getElem?_set_ne e] at hj
      obtain ⟨h1, h2⟩ := ab_kill_get hj
      refine h'.2.2 (j, ab_v bs b w) (List.mem_cons_of_mem _ (List.mem_filter.mpr ⟨ab_lv_mem.mpr ⟨w, h1, rfl⟩, ?_⟩))
      have e1 : (j == i) = false := by rw [beq_eq_false_iff_ne]; exact fun q => e q.symm
      have e3 : (j == i + 1) = false := by rw [beq_eq_false_iff_ne]; exact fun q => e0 q.symm
      by_cases e2 : j + 1 = i
      · have := h2 e2
        simp [e1, ab_v_cat, this]
        omega
      · simp [e1, e2]
        omega
/-- the locals at a method's entry -/
def ab_args : List Value → List (Option Value)
  | [] => []
  | v :: vs => if v.category = 2 then some v :: none :: ab_args vs else some v :: ab_args vs
theorem ab_args_in {bs b : Nat} (vs : List Value) : ∀ (i j : Nat) (v : Value), (ab_args vs)[j]? = some (some v) → (i + j, ab_v bs b v) ∈ lv_args i (vs.map (ab_v bs b)) := by
  induction vs with
  | nil => intro i j v h; simp [ab_args] at h
  | cons w ws ih =>
    intro i j v h
    show _ ∈ (i, ab_v bs b w) :: lv_args (if (ab_v bs b w).category = 2 then i + 2 else i + 1) (ws.map (ab_v bs b))
    rw [ab_v_cat]
    unfold ab_args at h
    by_cases hc : w.category = 2
    · rw [if_pos hc] at h ⊢
      match j, h with
      | 0, h => cases h; exact List.mem_cons_self
      | 1, h => cases h
      | j + 2, h =>
        have := ih (i + 2) j v h
        rw [show i + (j + 2) = i + 2 + j by omega]
        exact List.mem_cons_of_mem _ this
    · rw [if_neg hc] at h ⊢
      match j, h with
      | 0, h => cases h; exact List.mem_cons_self
      | j + 1, h =>
        have := ih (i + 1) j v h
        rw [show i + (j + 1) = i + 1 + j by omega]
        exact List.mem_cons_of_mem _ this
theorem ab_args_len (vs : List Value) (bs b : Nat) : (lg_sl (vs.map (ab_v bs b))).length = (ab_args vs).length := by
  induction vs with
  | nil => rfl
  | cons w ws ih =>
    have : lg_sl ((w :: ws).map (ab_v bs b)) = (if w.category = 2 then [Slot.val (ab_v bs b w), .second] else [Slot.val (ab_v bs b w)]) ++ lg_sl (ws.map (ab_v bs b)) := by
      unfold lg_sl
      rw [List.map_cons, List.flatMap_cons, ab_v_cat]
    rw [this, List.length_append, ih]
    have e : ab_args (w :: ws) = if w.category = 2 then some w :: none :: ab_args ws else some w :: ab_args ws := rfl
    rw [e]
    by_cases hc : w.category = 2
    · rw [if_pos hc, if_pos hc]
      simp only [List.length_cons, List.length_nil]
      omega
    · rw [if_neg hc, if_neg hc]
      simp only [List.length_cons, List.length_nil]
      omega
def ab_pad (n : Nat) (l : List (Option Value)) : List (Option Value) := l ++ List.replicate (n - l.length) none
theorem ab_pad_get {n j : Nat} {l : List (Option Value)} {v : Value} (h : (ab_pad n l)[j]? = some (some v)) : l[j]? = some (some v) := by
  unfold ab_pad at h
  by_cases hj : j < l.length
  · rw [List.getElem?_append_left hj] at h
    exact h
  · rw [List.getElem?_append_right (by omega), List.getElem?_replicate] at h
    split at h
    · cases h
    · cases h
/-- what stays along a method -/
def ab_Cx (Y : ab_Y) (d k n tc ts : Nat) (D : va_G) (dA : Nat → ClassId) (bs : Nat) (p : Program) (R : Room) (s : State) (m : MethodId) (args : Array Value) (meth : Method) (c : Code) (cells slots : Nat) : Prop :=
  (p.tables.exec = Jvm.exec ∧ c.code = Y.2.1 ∧ c.maxLocals = Y.2.2.1 ∧ s.vm.findClass Y.1.cls = some m.cls ∧ ∀ w ∈ ab_gw, w.before args s = true) ∧ ab_K D dA s ∧ (d ≤ R.frames ∧ 40 * d ≤ R.locals ∧ cells + k ≤ tc ∧ slots + n ≤ ts ∧ tc ≤ R.cells ∧ ts ≤ R.slots) ∧ bs < s.heap.size ∧ meth.name = Y.1.name
def ab_isret (Y : ab_Y) (r : Option Value) (pc : Nat) : Prop := match r with
  | none => decode Y.2.1 pc = .ok (.return_, 1) ∧ Y.2.2.2 = none
  | some (.int v) => decode Y.2.1 pc = .ok (.ireturn, 1) ∧ ∃ ty, Y.2.2.2 = some ty ∧ narrow ty (.int v) = .int v
  | some (.long _) => decode Y.2.1 pc = .ok (.lreturn, 1) ∧ Y.2.2.2 = some .long
  | _ => False
def ab_Run (Y : ab_Y) (d k n : Nat) (M : ab_M) (pc : Nat) (ls : List (Option Value)) (st : List Value) (Q : ab_M → Option Value → Prop) : Prop :=
  ∀ ⦃p : Program⦄ ⦃l : Launch⦄ ⦃e : Env⦄ ⦃R : Room⦄ ⦃s : State⦄ ⦃m : MethodId⦄ ⦃args : Array Value⦄ ⦃below : List Frame⦄ ⦃meth : Method⦄ ⦃c : Code⦄ ⦃D : va_G⦄ ⦃dA : Nat → ClassId⦄ ⦃bs b tc ts : Nat⦄ ⦃H : Heap⦄ ⦃locs : List Loc⦄ ⦃cells slots : Nat⦄ ⦃arr : Array Slot⦄ ⦃Z : State → Prop⦄,
    ab_Cx Y d k n tc ts D dA bs p R s m args meth c cells slots → ab_H D dA bs b M s H → va_S (fun q => bs < q) s.heap H locs → ab_L bs b arr Y.2.2.1 ls →
    (∀ (M' : ab_M) (r : Option Value) (H' : Heap) (locs' : List Loc) (pc' : Nat) (arr' : Array Slot), ab_isret Y r pc' → ab_H D dA bs b M' s H' → va_S (fun q => bs < q) s.heap H' locs' → Q M' r → W p l e R s m args below meth c H' locs' tc ts Z (F0 m pc' arr' (r.toList.map (ab_v bs b)))) →
    W p l e R s m args below meth c H locs cells slots Z (F0 m pc arr (st.map (ab_v bs b)))
theorem ab_Run.mono {Y : ab_Y} {d k n pc : Nat} {M : ab_M} {ls : List (Option Value)} {st : List Value} {Q Q' : ab_M → Option Value → Prop} (h : ab_Run Y d k n M pc ls st Q) (hq : ∀ M' r, Q M' r → Q' M' r) : ab_Run Y d k n M pc ls st Q' := by
  intro p l e R s m args below meth c D dA bs b tc ts H locs cells slots arr Z hC hH hS hL hr
  exact h hC hH hS hL (fun M' r H' locs' pc' arr' h1 h2 h3 h4 => hr M' r H' locs' pc' arr' h1 h2 h3 (hq _ _ h4))
/-- a method's contract -/
def ab_Pc (D : va_G) (dA : Nat → ClassId) (bs b : Nat) (M : ab_M) (av : List Value) : Array Value → State → Prop := fun v U => v = (av.map (ab_v bs b)).toArray ∧ bs < U.heap.size ∧ ab_K D dA U ∧ ab_H D dA bs b M U U.heap
def ab_Qc (D : va_G) (dA : Nat → ClassId) (bs b : Nat) (Q : ab_M → Option Value → Prop) : Array Value → State → Outcome → State → Prop := fun _ st oc t => (∃ (M' : ab_M) (r : Option Value), oc = .returned (r.map (ab_v bs b)) ∧ Q M' r ∧ ab_H D dA bs b M' t t.heap) ∧ va_F (fun q => bs < q) st t
def ab_rm (d k n : Nat) : Room := { frames := d, cells := k, slots := n, locals := 40 * d }
def ab_Call (Y : ab_Y) (d k n : Nat) (M : ab_M) (av : List Value) (Q : ab_M → Option Value → Prop) : Prop :=
  ∀ (l : Launch) (D : va_G) (dA : Nat → ClassId) (bs b : Nat), Met l Y.1 (ab_wy Y) (ab_rm d k n) (ab_Pc D dA bs b M av) (ab_Qc D dA bs b Q) k n (fun q => bs < q)
theorem ab_Pc.blind {D : va_G} {dA : Nat → ClassId} {bs b : Nat} {M : ab_M} {av : List Value} : FrameBlind (ab_Pc D dA bs b M av) := by
  intro a U g mk h
  obtain ⟨h1, h2, h3, h4⟩ := h
  exact ⟨h1, h2, h3.blind g mk a, h4.moved (Vm.Alike.refl U.vm)⟩
set_option maxHeartbeats 1000000 in
theorem ab_Call.of {Y : ab_Y} {d k n : Nat} {M : ab_M} {av : List Value} {Q : ab_M → Option Value → Prop} (hy : plainName Y.1.cls = true) (hn : (ab_args av).length ≤ Y.2.2.1) (h : ab_Run Y d k n M 0 (ab_pad Y.2.2.1 (ab_args av)) [] Q) : ab_Call Y d k n M av Q := by
  intro l D dA bs b
  refine Met.ofW (cc := Y.2.1) (maxL := Y.2.2.1) (ret := Y.2.2.2) hy rfl ?_
  intro p e s m args below meth c s₁ B hml hv
  obtain ⟨rfl, hbs, hK, hH⟩ := hv
  have hlocks := B.notSynchronized
  have hts := atoms_spec (ws := ab_wy Y) B.pre
  have hown : s.vm.findClass Y.1.cls = some m.cls := findClass_of_methodNamed B.named
  have hnm : meth.name = Y.1.name := (name_of_methodNamed B.named B.method).1
  have hl := lv_entry (av.map (ab_v bs b)) (n := Y.2.2.1) (by rw [ab_args_len]; exact hn)
  rw [lg_entry_eq]
  generalize (lg_sl (av.map (ab_v bs b)) ++ List.replicate (Y.2.2.1 - (lg_sl (av.map (ab_v bs b))).length) Slot.unset).toArray = arr at hl ⊢
  have hL : ab_L bs b arr Y.2.2.1 (ab_pad Y.2.2.1 (ab_args av)) := ⟨hl.1, hl.2.1, fun i v hi => by
    have h1 := ab_args_in (bs := bs) (b := b) av 0 i v (ab_pad_get hi)
    rw [Nat.zero_add] at h1
    exact hl.2.2 _ h1⟩
  have hC : ab_Cx Y d k n k n D dA bs p (headSpec (ab_wy Y) (ab_rm d k n)).room s m (av.map (ab_v bs b)).toArray meth c 0 0 :=
    ⟨⟨B.exec, B.bytes, hml, hown, fun w hw => hts w (List.mem_cons_of_mem _ hw)⟩, hK, ⟨Nat.le_refl _, Nat.le_refl _, by omega, by omega, Nat.le_refl _, Nat.le_refl _⟩, hbs, hnm⟩
  refine h hC hH va_S.rf hL ?_
  intro M' r H' locs' pc' arr' hi hH' hS' hq
  have hfin : ∀ t : State, t.heap = H' → s.WarmedH t.vm → ab_Qc D dA bs b Q (av.map (ab_v bs b)).toArray s (.returned (r.map (ab_v bs b))) t := fun t ht hW =>
    ⟨⟨M', r, rfl, hq, by rw [ht]; exact hH'.moved hW.alike⟩, hS'.F ht⟩
  match r, hi with
  | none, hi =>
    exact W.vret B.exec B.bytes (by rw [B.returns]; exact hi.2) hfin hS'.2.2 hi.1
  | some (.int v), hi =>
    obtain ⟨h1, ty, h2, h3⟩ := hi
    exact W.zret (ty := ty) B.exec B.bytes (by rw [B.returns]; exact h2) h3 hfin hS'.2.2 h1
  | some (.long v), hi =>
    exact W.lret B.exec B.bytes (by rw [B.returns]; exact hi.2) hfin hS'.2.2 hi.1
