/-! the model whole: judge, done -/
theorem HM.fg {σ τ : ab_S} {m : Int} {G : GS} (h : HM σ m G) (hf : FG σ τ m) : HM τ m G := h.kept (fun k i b => hf k i (by omega) (by omega))
theorem FG.fy {σ τ : ab_S} {m : Int} (hf : FG σ τ m) : FY σ τ m := fun k i b => hf k i (by omega) (by omega)
theorem flt_neg : ∀ (xs : List Int) (e i : Int), 0 ≤ i → fltL e i xs < 0 → fltL e i xs = -6
  | [], e, i, h1, h2 => by
    have h3 : (if e = 0 then -6 else i) < 0 := h2
    show (if e = 0 then -6 else i) = -6
    by_cases h : e = 0
    · rw [if_pos h]
    · rw [if_neg h] at h3; omega
  | s :: r, e, i, h1, h2 => by
    have h3 : (if beh e s = 3 then i else fltL (beh e s) (i + 1) r) < 0 := h2
    show (if beh e s = 3 then i else fltL (beh e s) (i + 1) r) = -6
    by_cases h : beh e s = 3
    · rw [if_pos h] at h3; omega
    · rw [if_neg h] at h3
      rw [if_neg h]
      exact flt_neg r _ _ (by omega) h3
theorem fault_neg {xs : List Int} (h : fault xs < 0) : fault xs = -6 := flt_neg xs 0 0 (by omega) h
theorem PI_go {Y : ab_Y} {d : Nat} {σ : ab_S} {av : List Value} {c : Prop} [Decidable c] {R : ab_S → Prop} (h : C2 Y d σ av (PI fun σ' z => z = (if c then 1 else 0) ∧ R σ')) : C2 Y d σ av (PI fun σ' z => ((z = 1 ∧ c) ∨ (z = 0 ∧ ¬ c)) ∧ R σ') := C2.mono h (fun _ _ ⟨z, e, h1, h2⟩ => ⟨z, e, zz_of h1, h2⟩)
set_option maxRecDepth 20000 in
theorem c_X9_judge {σ : ab_S} {m : Int} {G : GS} (hm : kd_ m 9 37) (hM : HM σ m G) (hG : OKG G) {w : Int} (hw1 : -2147483648 ≤ w) (hw2 : w ≤ 2147483647) : C2 YX9_judge 5 σ [rf m, iv w] (PI fun σ' z => z = (judgeF G w).1 ∧ HM σ' m (judgeF G w).2 ∧ FY σ σ' m) := by
  obtain ⟨k1, k2, k3, k4, k5, k6, k7, k8, k9, k10, k11, k12, k13, k14, k15, k16, k17, k18, k19, k20, k21, k22, k23, k24, k25, k26⟩ := kd_model hm
  have hA := hM.1
  have hW := hG.1.1.1
  have hWL := hG.1.1.2
  refine C2.of (by decide +kernel) (Nat.le_of_ble_eq_true rfl) ?_
  refine r_iload_n (Y := YX9_judge) dX9_judge_0 rfl ?_
  refine r_i2l (Y := YX9_judge) dX9_judge_1 ?_
  refine r_lconst (Y := YX9_judge) (v := 0) dX9_judge_2 rfl ?_
  refine r_lconst (Y := YX9_judge) (v := 1) dX9_judge_3 rfl ?_
  refine r_iS3I (Y := YX9_judge) ms_X9_95 dX9_judge_4 (c_in (by omega) (by omega) (by omega) (by omega) (by omega) (by omega)) (fun σ4 z4 h4 => ?_)
  obtain ⟨rfl, h4⟩ := h4
  refine r_if_ne (Y := YX9_judge) (tgt := 13) dX9_judge_7 (by decide) (fun c7 => ?_) (fun c7 => ?_) 
  · refine r_aload_n (Y := YX9_judge) dX9_judge_13 rfl ?_
    refine r_iV0I (Y := YX9_judge) mv_X9_171 dX9_judge_14 (c_X9_fault hm hM.2.2.2.1 hG.2.1) (by assumption) (fun σ14 z14 h14 => ?_)
    obtain ⟨rfl, rfl⟩ := h14
    have hfb := fault_bd hG.2.1.1
    have hfn : fault G.2.1 < 0 → fault G.2.1 = -6 := fun h => fault_neg h
    refine r_if_lt (Y := YX9_judge) (tgt := 23) dX9_judge_17 (by decide) (fun c17 => ?_) (fun c17 => ?_) 
    · refine r_aload_n (Y := YX9_judge) dX9_judge_23 rfl ?_
      refine r_iV0I (Y := YX9_judge) mv_X9_175 dX9_judge_24 (PI_go (c_X9_goText hm hA hW hM.2.2.2.1 hG.2.1 (hfn (by omega)))) (by assumption) (fun σ24 z24 h24 => ?_)
      obtain ⟨z0, z1, z2, z3, z4⟩ := h24
      have hfo := follow_bd (B := G.1.1) (hfn (by omega)) hG.2.1.1 hW
      have hnz := nz_bd hfo.2.1.1 hfo.2.1.2
      have hM2 := hM.fg z4
      refine r_istore_n (Y := YX9_judge) dX9_judge_27 ?_
      refine r_iload_n (Y := YX9_judge) dX9_judge_28 rfl ?_
      refine r_if_eq (Y := YX9_judge) (tgt := 37) dX9_judge_29 (by decide) (fun c29 => ?_) (fun c29 => ?_) 
      · refine r_iload_n (Y := YX9_judge) dX9_judge_37 rfl ?_
        refine r_if_ne (Y := YX9_judge) (tgt := 48) dX9_judge_38 (by decide) (fun c38 => ?_) (fun c38 => ?_) 
        · refine r_aload_n (Y := YX9_judge) dX9_judge_48 rfl ?_
          refine r_getV (Y := YX9_judge) (v := nz (follow G.2.1 G.1.1).2.1) (jz := 27) fl_X9_165 dX9_judge_49 (z2) ?_
          refine r_ireturn (Y := YX9_judge) dX9_judge_52 ?_
          have hf6 := hfn (by omega)
          first
            | (exfalso; omega)
            | (unfold judgeF; (repeat (first | rw [if_pos (by omega)] | rw [if_neg (by omega)])); exact ⟨by first | rfl | (show _ = (_ : Int); omega), hM2, z4.fy⟩)
        · refine r_aload_n (Y := YX9_judge) dX9_judge_41 rfl ?_
          refine r_getV (Y := YX9_judge) (v := (follow G.2.1 G.1.1).1) (jz := 26) fl_X9_162 dX9_judge_42 (z1) ?_
          refine r_goto (Y := YX9_judge) (tgt := 52) dX9_judge_45 (by decide) ?_
          refine r_ireturn (Y := YX9_judge) dX9_judge_52 ?_
          have hf6 := hfn (by omega)
          first
            | (exfalso; omega)
            | (unfold judgeF; (repeat (first | rw [if_pos (by omega)] | rw [if_neg (by omega)])); exact ⟨by first | rfl | (show _ = (_ : Int); omega), hM2, z4.fy⟩)
      · refine r_bipush (Y := YX9_judge) dX9_judge_32 ?_
        refine r_goto (Y := YX9_judge) (tgt := 52) dX9_judge_34 (by decide) ?_
        refine r_ireturn (Y := YX9_judge) dX9_judge_52 ?_
        have hf6 := hfn (by omega)
        first
          | (exfalso; omega)
          | (unfold judgeF; (repeat (first | rw [if_pos (by omega)] | rw [if_neg (by omega)])); exact ⟨by first | rfl | (show _ = (_ : Int); omega), hM2, z4.fy⟩)
    · refine r_bipush (Y := YX9_judge) dX9_judge_20 ?_
      refine r_ireturn (Y := YX9_judge) dX9_judge_22 ?_
      first
        | (exfalso; omega)
        | (unfold judgeF; (repeat (first | rw [if_pos (by omega)] | rw [if_neg (by omega)])); exact ⟨rfl, hM, fun _ _ _ => rfl⟩)
  · refine r_bipush (Y := YX9_judge) dX9_judge_10 ?_
    refine r_ireturn (Y := YX9_judge) dX9_judge_12 ?_
    first
      | (exfalso; omega)
      | (unfold judgeF; (repeat (first | rw [if_pos (by omega)] | rw [if_neg (by omega)])); exact ⟨rfl, hM, fun _ _ _ => rfl⟩)
set_option maxRecDepth 20000 in
theorem c_X9_done {σ : ab_S} {m : Int} {G : GS} (hm : kd_ m 9 37) (hM : HM σ m G) (hG : OKG G)  : C2 YX9_done 5 σ [rf m] (PI fun σ' z => z = (doneF G).1 ∧ HM σ' m (doneF G).2 ∧ FY σ σ' m) := by
  obtain ⟨k1, k2, k3, k4, k5, k6, k7, k8, k9, k10, k11, k12, k13, k14, k15, k16, k17, k18, k19, k20, k21, k22, k23, k24, k25, k26⟩ := kd_model hm
  have hA := hM.1
  have hW := hG.1.1.1
  have hWL := hG.1.1.2
  refine C2.of (by decide +kernel) (Nat.le_of_ble_eq_true rfl) ?_
  refine r_aload_n (Y := YX9_done) dX9_done_0 rfl ?_
  refine r_iV0I (Y := YX9_done) mv_X9_171 dX9_done_1 (c_X9_fault hm hM.2.2.2.1 hG.2.1) (by assumption) (fun σ1 z1 h1 => ?_)
  obtain ⟨rfl, rfl⟩ := h1
  have hfb := fault_bd hG.2.1.1
  have hfn : fault G.2.1 < 0 → fault G.2.1 = -6 := fun h => fault_neg h
  refine r_if_ge (Y := YX9_done) (tgt := 14) dX9_done_4 (by decide) (fun c4 => ?_) (fun c4 => ?_) 
  · refine r_bipush (Y := YX9_done) dX9_done_14 ?_
    refine r_ireturn (Y := YX9_done) dX9_done_16 ?_
    first
      | (unfold doneF; (repeat (first | rw [if_pos (by omega)] | rw [if_neg (by omega)])); exact ⟨rfl, hM, fun _ _ _ => rfl⟩)
      | (have hf6 := hfn (by omega); unfold doneF; (repeat (first | rw [if_pos (by omega)] | rw [if_neg (by omega)])); exact ⟨rfl, hM2, z4.fy⟩)
  · refine r_aload_n (Y := YX9_done) dX9_done_7 rfl ?_
    refine r_iV0I (Y := YX9_done) mv_X9_175 dX9_done_8 (PI_go (c_X9_goText hm hA hW hM.2.2.2.1 hG.2.1 (hfn (by omega)))) (by assumption) (fun σ8 z8 h8 => ?_)
    obtain ⟨z0, z1, z2, z3, z4⟩ := h8
    have hfo := follow_bd (B := G.1.1) (hfn (by omega)) hG.2.1.1 hW
    have hnz := nz_bd hfo.2.1.1 hfo.2.1.2
    have hM2 := hM.fg z4
    refine r_if_ne (Y := YX9_done) (tgt := 17) dX9_done_11 (by decide) (fun c11 => ?_) (fun c11 => ?_) 
    · refine r_aload_n (Y := YX9_done) dX9_done_17 rfl ?_
      refine r_iV0V (Y := YX9_done) mv_X9_179 dX9_done_18 (c_keepTried hm z3 hfo.2.2) (by assumption) (fun σ18 h18 => ?_)
      obtain ⟨u1, u2⟩ := h18
      refine r_aload_n (Y := YX9_done) dX9_done_21 rfl ?_
      refine r_iconst (Y := YX9_done) dX9_done_22 ?_
      refine r_putI (Y := YX9_done) (jz := 25) fp_X9_130 dX9_done_23 ?_
      refine r_aload_n (Y := YX9_done) dX9_done_26 rfl ?_
      refine r_getV (Y := YX9_done) (v := (follow G.2.1 G.1.1).1) (jz := 26) fl_X9_162 dX9_done_27 ((by rw [← z1, ← u2 m 26 (by omega) (by omega)]; exact (by (try delta up); (try delta cpy); (try dsimp only); repeat (first | rw [if_pos (by omega)] | rw [if_neg (by omega)]); try (first | rfl | assumption | omega)))) ?_
      refine r_ireturn (Y := YX9_done) dX9_done_30 ?_
      have hf6 := hfn (by omega)
      unfold doneF
      (repeat (first | rw [if_pos (by omega)] | rw [if_neg (by omega)]))
      refine ⟨rfl, ?_, fun k i b => ?_⟩
      · have hM3 : HM σ18 m (setA G (follow G.2.1 G.1.1).2.2) := hM2.abb u1 (fun k i b => u2 k i (by omega) (by omega))
        exact hM3.padd ⟨up_same _ _ _ _, fun i v hv => by cases hv⟩ (fun k i b => by (try delta up); (try delta cpy); (try dsimp only); repeat (first | rw [if_pos (by omega)] | rw [if_neg (by omega)]); try (first | rfl | assumption | omega))
      · rw [← z4.fy k i b, ← u2 k i (by omega) (by omega)]; exact (by (try delta up); (try delta cpy); (try dsimp only); repeat (first | rw [if_pos (by omega)] | rw [if_neg (by omega)]); try (first | rfl | assumption | omega))
    · refine r_bipush (Y := YX9_done) dX9_done_14 ?_
      refine r_ireturn (Y := YX9_done) dX9_done_16 ?_
      first
        | (unfold doneF; (repeat (first | rw [if_pos (by omega)] | rw [if_neg (by omega)])); exact ⟨rfl, hM, fun _ _ _ => rfl⟩)
        | (have hf6 := hfn (by omega); unfold doneF; (repeat (first | rw [if_pos (by omega)] | rw [if_neg (by omega)])); exact ⟨rfl, hM2, z4.fy⟩)
