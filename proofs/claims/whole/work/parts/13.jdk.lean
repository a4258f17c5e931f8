set_option maxHeartbeats 1000000 in
theorem ab_Call.ofF {Y : ab_Y} {d k n : Nat} {M : ab_M} {av : List Value} {Q : ab_M → Option Value → Prop} (hy : plainFor Y.1 = true) (hn : (ab_args av).length ≤ Y.2.2.1) (h : ab_Run Y d k n M 0 (ab_pad Y.2.2.1 (ab_args av)) [] Q) : ab_Call Y d k n M av Q := by
  intro l D dA bs b
  refine va_MetF (cc := Y.2.1) (maxL := Y.2.2.1) (ret := Y.2.2.2) hy rfl ?_
  intro p e s m args below meth c s₁ B hml hv
  obtain ⟨rfl, hbs, hK, hH⟩ := hv
  have hlocks := B.notSynchronized
  have hts := atoms_spec (ws := ab_wy Y) B.pre
  have hown : s.vm.findClass Y.1.cls = some m.cls := findClass_of_methodNamed B.named
  have hnm : meth.name = Y.1.name := (name_of_methodNamed B.named B.method).1
  have hl := lv_entry (av.map (ab_v bs b)) (n := Y.2.2.1) (by rw [ab_args_len]; exact hn)
  rw [lg_entry_eq]
  generalize (lg_sl (av.map (ab_v bs b)) ++ List.replicate (Y.2.2.1 - (lg_sl (av.map (ab_v bs b))).length) Slot.unset).toArray = arr at hl ⊢
  have hL : ab_L bs b arr Y.2.2.1 (ab_pad Y.2.2.1 (ab_args av)) := ⟨hl.1, hl.2.1, fun i v hi => by
    have h1 := ab_args_in (bs := bs) (b := b) av 0 i v (ab_pad_get hi)
    rw [Nat.zero_add] at h1
    exact hl.2.2 _ h1⟩
  have hC : ab_Cx Y d k n k n D dA bs p (headSpec (ab_wy Y) (ab_rm d k n)).room s m (av.map (ab_v bs b)).toArray meth c 0 0 :=
    ⟨⟨B.exec, B.bytes, hml, hown, fun w hw => hts w (List.mem_cons_of_mem _ hw)⟩, hK, ⟨Nat.le_refl _, Nat.le_refl _, by omega, by omega, Nat.le_refl _, Nat.le_refl _⟩, hbs, hnm⟩
  refine h hC hH va_S.rf hL ?_
  intro M' r H' locs' pc' arr' hi hH' hS' hq
  have hfin : ∀ t : State, t.heap = H' → s.WarmedH t.vm → ab_Qc D dA bs b Q (av.map (ab_v bs b)).toArray s (.returned (r.map (ab_v bs b))) t := fun t ht hW =>
    ⟨⟨M', r, rfl, hq, by rw [ht]; exact hH'.moved hW.alike⟩, hS'.F ht⟩
  match r, hi with
  | none, hi =>
    exact W.vret B.exec B.bytes (by rw [B.returns]; exact hi.2) hfin hS'.2.2 hi.1
  | some (.int v), hi =>
    obtain ⟨h1, ty, h2, h3⟩ := hi
    exact W.zret (ty := ty) B.exec B.bytes (by rw [B.returns]; exact h2) h3 hfin hS'.2.2 h1
  | some (.long v), hi =>
    exact W.lret B.exec B.bytes (by rw [B.returns]; exact hi.2) hfin hS'.2.2 hi.1
theorem C2.ofF {Y : ab_Y} {d : Nat} {σ : ab_S} {av : List Value} {Q : ab_S → Option Value → Prop} (hy : plainFor Y.1 = true) (hn : (ab_args av).length ≤ Y.2.2.1) (h : R2 Y d σ 0 (ab_pad Y.2.2.1 (ab_args av)) [] Q) : C2 Y d σ av Q := ab_Call.ofF hy hn h
