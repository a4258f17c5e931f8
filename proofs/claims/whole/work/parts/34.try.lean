/-! renewal: the search -/
def cod (c : Int) : Int := if c = 0 then -6 else 10 * ((c - 1) / 4) + (c - 1) % 4
def FR (σ τ : ab_S) (g w v : Int) : Prop := ∀ k i : Int, (k < g ∨ g + 129 < k ∨ (k = g ∧ i ≠ 8) ∨ (g + 1 ≤ k ∧ k < g + 2 + 23 * (w + 1)) ∨ (g + 117 ≤ k ∧ k < g + 118 + v) ∨ (g + 122 ≤ k ∧ k < g + 123 + v) ∨ k = g + 127 ∨ (k = g + 128 ∧ i < w)) → τ k i = σ k i
theorem FR.tr {σ τ υ : ab_S} {g w v : Int} (h1 : FR σ τ g w v) (h2 : FR τ υ g w v) : FR σ υ g w v := fun k i h => (h2 k i h).trans (h1 k i h)
theorem FR.weak {σ τ : ab_S} {g w v w2 v2 : Int} (h : FR σ τ g w v) (h1 : w2 ≤ w) (h2 : v2 ≤ v) : FR σ τ g w2 v2 := fun k i hk => h k i (by omega)
def RS (σ : ab_S) (g wks need : Int) (od : List Int) (st : Int × List Int) : Prop := σ g 6 = wks ∧ σ g 7 = need ∧ OD σ g od ∧ σ g 8 = st.1 ∧ ∀ (i : Nat) (c : Int), st.2[i]? = some c → σ (g + 129) i = cod c
def TRd (σ : ab_S) (g : Int) (pre : List Int) : Prop := ∀ (i : Nat) (c : Int), pre[i]? = some c → σ (g + 128) i = cod c
theorem RS.kept {σ τ : ab_S} {g wks need : Int} {od : List Int} {st : Int × List Int} (h : RS σ g wks need od st) (hf : ∀ k i : Int, k = g ∨ k = g + 127 ∨ k = g + 129 → τ k i = σ k i) : RS τ g wks need od st := ⟨by rw [hf g 6 (by omega)]; exact h.1, by rw [hf g 7 (by omega)]; exact h.2.1, ⟨h.2.2.1.1, fun i x hx => by rw [hf _ _ (by omega)]; exact h.2.2.1.2 i x hx⟩, by rw [hf g 8 (by omega)]; exact h.2.2.2.1, fun i c hc => by rw [hf _ _ (by omega)]; exact h.2.2.2.2 i c hc⟩
theorem RA.fr {σ τ : ab_S} {g w v : Int} {A : AB} (h : RA σ (g + 1 + (1 + 23 * w)) A) (hw : 0 ≤ w) (hf : FR σ τ g w v) : RA τ (g + 1 + (1 + 23 * w)) A := h.kept (fun q i b1 b2 _ => hf q i (by omega))
theorem FSd.fr {σ τ : ab_S} {g w : Int} {A : AB} (h : FSd σ g w A) (hw : 0 ≤ w) (hf : FR σ τ g w (w + 1)) : FSd τ g w A := fun r h1 h2 => by
  rw [hf _ _ (by omega), hf _ _ (by omega)]
  exact h r h1 h2
theorem TRd.fr {σ τ : ab_S} {g w v : Int} {pre : List Int} (h : TRd σ g pre) (hl : (pre.length : Int) = w) (hf : FR σ τ g w v) : TRd τ g pre := fun i c hc => by
  have hi := (List.getElem?_eq_some_iff.mp hc).1
  rw [hf _ _ (by omega)]
  exact h i c hc
theorem mrg_hi {st : Int × List Int} {pre : List Int} {inc : Int} {r : Option (Int × List Int)} (h : ∀ q, r = some q → st.1 ≤ inc + q.1) : mrg st pre inc r = st := by
  cases r with
  | none => rfl
  | some q =>
    show (if inc + q.1 < st.1 then _ else st) = st
    rw [if_neg (by have := h q rfl; omega)]
theorem mrg_bd {st : Int × List Int} {pre : List Int} {inc : Int} {r : Option (Int × List Int)} (h : ∀ q, r = some q → 0 ≤ q.1) (h0 : 0 ≤ inc) (h1 : 0 ≤ st.1) : 0 ≤ (mrg st pre inc r).1 ∧ (mrg st pre inc r).1 ≤ st.1 := by
  cases r with
  | none => exact ⟨h1, Int.le_refl _⟩
  | some q =>
    have := h q rfl
    show 0 ≤ (if inc + q.1 < st.1 then (inc + q.1, pre ++ q.2) else st).1 ∧ (if inc + q.1 < st.1 then (inc + q.1, pre ++ q.2) else st).1 ≤ st.1
    split
    · exact ⟨by show 0 ≤ inc + q.1; omega, by show inc + q.1 ≤ _; omega⟩
    · exact ⟨h1, Int.le_refl _⟩
theorem renO_ge {need : Int} {k c : Nat} {A : AB} {q : Int × List Int} (h : WA A) (hc : c < 25) (hq : renO (ren need k) need A c = some q) : oC A c ≤ q.1 := by
  by_cases hg : oGo need A c
  · rw [renO_go hg] at hq
    cases hf : ren need k (oA A c) with
    | none => rw [hf] at hq; cases hq
    | some p =>
      rw [hf] at hq
      have e : (oC A c + p.1, (c : Int) :: p.2) = q := Option.some.inj hq
      subst e
      have := (ren_bd (WA_oA h hc) hf).1
      show oC A c ≤ oC A c + p.1
      omega
  · rw [renO_no hg] at hq; cases hq
theorem oC_bd {A : AB} (h : WA A) {c : Nat} (hc : c < 25) : 0 ≤ oC A c ∧ oC A c ≤ 99 := by
  unfold oC
  split
  · omega
  · exact h.2.2.1 _ (by omega) (by omega)
theorem renN_ge {need : Int} {k : Nat} {A : AB} {q : Int × List Int} (h : WA A) {n : Nat} (hn : n ≤ 25) (hq : renN (ren need k) need A n = some q) : 0 ≤ q.1 := by
  obtain ⟨c, h1, h2⟩ := renN_some n hq
  have h3 := renO_ge h (show c < 25 by omega) h2
  have h4 := oC_bd h (show c < 25 by omega)
  omega
theorem bet_none (a : Option (Int × List Int)) : bet a none = a := by cases a <;> rfl
theorem oOk_no {need : Int} {f : AB → Option (Int × List Int)} {A : AB} {m c : Nat} (hm : aB A m = 0) (h1 : c ≠ 0) (h2 : (c - 1) / 4 = m) : renO f need A c = none := by
  refine renO_no (fun hg => ?_)
  have := (weaveZ_ok (hg.1.resolve_left h1)).1
  rw [h2] at this
  exact this hm
theorem renN_skip {need : Int} {f : AB → Option (Int × List Int)} {A : AB} {m : Nat} (hm : aB A m = 0) : renN f need A (1 + 4 * (m + 1)) = renN f need A (1 + 4 * m) := by
  rw [show 1 + 4 * (m + 1) = 1 + 4 * m + 1 + 1 + 1 + 1 by omega]
  show bet (bet (bet (bet (renN f need A (1 + 4 * m)) (renO f need A (1 + 4 * m))) (renO f need A (1 + 4 * m + 1))) (renO f need A (1 + 4 * m + 1 + 1))) (renO f need A (1 + 4 * m + 1 + 1 + 1)) = _
  rw [oOk_no hm (by omega) (by omega), oOk_no hm (by omega) (by omega), oOk_no hm (by omega) (by omega), oOk_no hm (by omega) (by omega), bet_none, bet_none, bet_none, bet_none]
def TF (k : Nat) : Prop := ∀ (σ : ab_S) (g w : Int) (A : AB) (od pre : List Int) (inc need : Int) (st : Int × List Int), kd_ g 4 9 → 0 ≤ w → w + k ≤ 4 → RA σ (g + 1 + (1 + 23 * w)) A → WA A → PO A od → RS σ g (w + k) need od st → (pre.length : Int) = w → TRd σ g pre → 0 ≤ inc → inc < st.1 → st.1 ≤ 595 → -2147483648 ≤ need → need ≤ 2147483647 → C2 YX4_tryFrom (2 * k + 5) σ [rf g, iv w, iv inc] (PV fun σ' => RS σ' g (w + k) need od (mrg st pre inc (ren need k A)) ∧ FR σ σ' g w w)
set_option maxRecDepth 20000 in
theorem c_X4_tryStep_no {σ : ab_S} {k : Nat} (hT : TF k) {g w : Int} {A : AB} {od pre : List Int} {inc need : Int} {st : Int × List Int} (hg : kd_ g 4 9) (hw1 : 0 ≤ w) (hw2 : w + ((k + 1 : Nat) : Int) ≤ 4) (hA : RA σ (g + 1 + (1 + 23 * w)) A) (hW : WA A) (hP : PO A od) (hS : RS σ g (w + ((k + 1 : Nat) : Int)) need od st) (hl : (pre.length : Int) = w) (hTr : TRd σ g pre) (h0 : 0 ≤ inc) (h1 : inc ≤ 10000) (h2 : 0 ≤ st.1) (h3 : st.1 ≤ 595) (hn1 : -2147483648 ≤ need) (hn2 : need ≤ 2147483647) (hFS : FSd σ g w A) : C2 YX4_tryStep (2 * k + 6) σ [rf g, iv w, iv inc, iv (-1), iv 0] (PV fun σ' => RS σ' g (w + ((k + 1 : Nat) : Int)) need od (mrg st pre inc (renO (ren need k) need A 0)) ∧ FR σ σ' g w (w + 1)) := by
  obtain ⟨k1, k2, k3, k4, k5, k6⟩ := kd_renewal hg
  have ka := kd_ahead hg (i := w) (by omega) (by omega)
  have kb := kd_ahead hg (i := w + 1) (by omega) (by omega)
  have ec : oC A 0 = 0 := rfl
  have ea : oA A 0 = weekA A := if_pos rfl
  have eg : oGo need A 0 ↔ need ≤ bearsA (oA A 0) 0 := ⟨fun h => h.2, fun h => ⟨Or.inl rfl, h⟩⟩
  refine C2.of (by decide +kernel) (Nat.le_of_ble_eq_true rfl) ?_
  refine r_iload_n (Y := YX4_tryStep) dX4_tryStep_0 rfl ?_
  refine r_aload_n (Y := YX4_tryStep) dX4_tryStep_1 rfl ?_
  refine r_getV (Y := YX4_tryStep) (v := st.1) (jz := 8) fl_X4_43 dX4_tryStep_2 (hS.2.2.2.1) ?_
  refine r_icmp_ge (Y := YX4_tryStep) (tgt := 19) dX4_tryStep_5 (by decide) (fun c5 => ?_) (fun c5 => ?_) 
  · refine r_return (Y := YX4_tryStep) dX4_tryStep_19 ?_
    refine ⟨?_, fun _ _ _ => rfl⟩
    first
      | (rw [mrg_hi (fun q hq => by have := renO_ge hW (by omega) hq; omega)]; exact hS)
      | (rw [renO_no (fun h => absurd (eg.mp h) (by omega))]; exact hS)
  · refine r_aload_n (Y := YX4_tryStep) dX4_tryStep_8 rfl ?_
    refine r_iload_n (Y := YX4_tryStep) dX4_tryStep_9 rfl ?_
    refine r_iload_n (Y := YX4_tryStep) dX4_tryStep_10 rfl ?_
    refine r_iload (Y := YX4_tryStep) dX4_tryStep_11 rfl ?_
    refine r_iV3I (Y := YX4_tryStep) mv_X4_82 dX4_tryStep_13 (PI_zz (c_X4_holdsBehind_no hg hw1 (by omega) hA hW hFS hS.2.1 hn1 hn2)) (by assumption) (fun σ13 z13 h13 => ?_)
    obtain ⟨rfl, h13⟩ := h13
    refine r_if_ne (Y := YX4_tryStep) (tgt := 20) dX4_tryStep_16 (by decide) (fun c16 => ?_) (fun c16 => ?_) 
    · refine r_aload_n (Y := YX4_tryStep) dX4_tryStep_20 rfl ?_
      refine r_getR (Y := YX4_tryStep) (δz := 1) fl_X4_11 dX4_tryStep_21 rfl rfl ?_
      refine r_iload_n (Y := YX4_tryStep) dX4_tryStep_24 rfl ?_
      refine r_iconst (Y := YX4_tryStep) dX4_tryStep_25 ?_
      refine r_iadd (Y := YX4_tryStep) dX4_tryStep_26 ?_
      first | refine r_aaload (Y := YX4_tryStep) (δz := 2) (sz := 4) dX4_tryStep_27 tg_12 rfl rfl ?_ | refine r_aaload (Y := YX4_tryStep) (δz := 1) (sz := 30) dX4_tryStep_27 tg_13 rfl rfl ?_ | refine r_aaload (Y := YX4_tryStep) (δz := 1) (sz := 23) dX4_tryStep_27 tg_14 rfl rfl ?_ | refine r_aaload (Y := YX4_tryStep) (δz := 1) (sz := 1) dX4_tryStep_27 tg_15 rfl rfl ?_
      refine r_astore (Y := YX4_tryStep) dX4_tryStep_28 ?_
      refine r_aload (Y := YX4_tryStep) dX4_tryStep_30 rfl ?_
      refine r_aload_n (Y := YX4_tryStep) dX4_tryStep_32 rfl ?_
      refine r_getR (Y := YX4_tryStep) (δz := 1) fl_X4_11 dX4_tryStep_33 rfl rfl ?_
      refine r_iload_n (Y := YX4_tryStep) dX4_tryStep_36 rfl ?_
      first | refine r_aaload (Y := YX4_tryStep) (δz := 2) (sz := 4) dX4_tryStep_37 tg_12 rfl rfl ?_ | refine r_aaload (Y := YX4_tryStep) (δz := 1) (sz := 30) dX4_tryStep_37 tg_13 rfl rfl ?_ | refine r_aaload (Y := YX4_tryStep) (δz := 1) (sz := 23) dX4_tryStep_37 tg_14 rfl rfl ?_ | refine r_aaload (Y := YX4_tryStep) (δz := 1) (sz := 1) dX4_tryStep_37 tg_15 rfl rfl ?_
      refine r_iV1V (Y := YX4_tryStep) mv_X4_46 dX4_tryStep_38 (c_X0_become kb ka hA hW (by omega)) (by assumption) (fun σ38 h38 => ?_)
      obtain ⟨b1, b2⟩ := h38
      refine r_iload_n (Y := YX4_tryStep) dX4_tryStep_41 rfl ?_
      refine r_iconst (Y := YX4_tryStep) dX4_tryStep_42 ?_
      refine r_icmp_eq (Y := YX4_tryStep) (tgt := 55) dX4_tryStep_43 (by decide) (fun c43 => ?_) (fun c43 => absurd c43 (by omega)) 
      refine r_aload (Y := YX4_tryStep) dX4_tryStep_55 rfl ?_
      refine r_iV0V (Y := YX4_tryStep) mv_X4_90 dX4_tryStep_57 (c_X0_passWeek kb b1 hW) (by assumption) (fun σ57 h57 => ?_)
      obtain ⟨b5, b6⟩ := h57
      refine r_aload_n (Y := YX4_tryStep) dX4_tryStep_60 rfl ?_
      refine r_getR (Y := YX4_tryStep) (δz := 128) fl_X4_30 dX4_tryStep_61 rfl rfl ?_
      refine r_iload_n (Y := YX4_tryStep) dX4_tryStep_64 rfl ?_
      refine r_iload_n (Y := YX4_tryStep) dX4_tryStep_65 rfl ?_
      refine r_iconst (Y := YX4_tryStep) dX4_tryStep_66 ?_
      refine r_icmp_ne (Y := YX4_tryStep) (tgt := 75) dX4_tryStep_67 (by decide) (fun c67 => absurd c67 (by omega)) (fun c67 => ?_) 
      refine r_bipush (Y := YX4_tryStep) dX4_tryStep_70 ?_
      refine r_goto (Y := YX4_tryStep) (tgt := 82) dX4_tryStep_72 (by decide) ?_
      refine r_iastore (Y := YX4_tryStep) dX4_tryStep_82 ?_
      refine r_aload_n (Y := YX4_tryStep) dX4_tryStep_83 rfl ?_
      refine r_iload_n (Y := YX4_tryStep) dX4_tryStep_84 rfl ?_
      refine r_iconst (Y := YX4_tryStep) dX4_tryStep_85 ?_
      refine r_iadd (Y := YX4_tryStep) dX4_tryStep_86 ?_
      refine r_iload_n (Y := YX4_tryStep) dX4_tryStep_87 rfl ?_
      have hgo : oGo need A 0 := eg.mpr (by omega)
      have hfa : ∀ q i : Int, q < g + 1 + (1 + 23 * (w + 1)) ∨ g + 1 + (1 + 23 * (w + 1)) + 22 < q → σ57 q i = σ13 q i := fun q i h9 => by rw [b6 q i h9]; exact b2 q i h9
      have hfr : FR σ13 (up σ57 (g + 128) w (-6)) g w (w + 1) := fun q i h9 => by rw [← hfa q i (by omega)]; exact (by (try delta up); (try delta cpy); (try dsimp only); repeat (first | rw [if_pos (by omega)] | rw [if_neg (by omega)]); try (first | rfl | assumption | omega))
      have hck : cod ((0 : Nat) : Int) = -6 := by unfold cod; rfl
      have hS2 : RS (up σ57 (g + 128) w (-6)) g (w + 1 + k) need od st := by
        rw [show w + 1 + (k : Int) = w + ((k + 1 : Nat) : Int) by omega]
        exact hS.kept (fun q i h9 => by rw [← hfa q i (by omega)]; exact (by (try delta up); (try delta cpy); (try dsimp only); repeat (first | rw [if_pos (by omega)] | rw [if_neg (by omega)]); try (first | rfl | assumption | omega)))
      have hT2 : TRd (up σ57 (g + 128) w (-6)) g (pre ++ [((0 : Nat) : Int)]) := by
        intro i x hx
        by_cases hi : i < pre.length
        · rw [List.getElem?_append_left hi] at hx
          rw [← hTr i x hx, hfr _ _ (by omega)]
        · rw [List.getElem?_append_right (by omega)] at hx
          cases hj : i - pre.length with
          | zero =>
            rw [hj] at hx
            have e : ((0 : Nat) : Int) = x := Option.some.inj hx
            rw [← e, hck, show (i : Int) = w by omega]
            exact up_same _ _ _ _
          | succ j => rw [hj] at hx; cases hx
      have hA2 : RA (up σ57 (g + 128) w (-6)) (g + 1 + (1 + 23 * (w + 1))) (weekA A) := b5.kept (fun q i c1 c2 _ => by (try delta up); (try delta cpy); (try dsimp only); repeat (first | rw [if_pos (by omega)] | rw [if_neg (by omega)]); try (first | rfl | assumption | omega))
      have hcall := hT _ g (w + 1) (weekA A) od (pre ++ [((0 : Nat) : Int)]) inc need st hg (by omega) (by omega) hA2 (by rw [← ea]; exact WA_oA hW (by omega)) (by rw [← ea]; exact (hop_step (k := 0) hW hP (by omega) hgo.1).2) hS2 (by rw [List.length_append, List.length_singleton]; omega) hT2 (by omega) (by omega) h3 hn1 hn2
      refine r_iV2V (Y := YX4_tryStep) mv_X4_53 dX4_tryStep_88 (hcall) (by assumption) (fun σ88 h88 => ?_)
      refine r_return (Y := YX4_tryStep) dX4_tryStep_91 ?_
      obtain ⟨d1, d2⟩ := h88
      refine ⟨?_, hfr.tr (d2.weak (by omega) (by omega))⟩
      rw [renO_go hgo, ← mrg_map, ec, ea]
      rw [show w + 1 + (k : Int) = w + ((k + 1 : Nat) : Int) by omega] at d1
      rw [Int.add_zero]
      exact d1
    · refine r_return (Y := YX4_tryStep) dX4_tryStep_19 ?_
      refine ⟨?_, fun _ _ _ => rfl⟩
      first
        | (rw [mrg_hi (fun q hq => by have := renO_ge hW (by omega) hq; omega)]; exact hS)
        | (rw [renO_no (fun h => absurd (eg.mp h) (by omega))]; exact hS)
set_option maxRecDepth 20000 in
theorem c_X4_tryStep_m {σ : ab_S} {k : Nat} (hT : TF k) {g w : Int} {A : AB} {od pre : List Int} {inc need : Int} {st : Int × List Int} (hg : kd_ g 4 9) (hw1 : 0 ≤ w) (hw2 : w + ((k + 1 : Nat) : Int) ≤ 4) (hA : RA σ (g + 1 + (1 + 23 * w)) A) (hW : WA A) (hP : PO A od) (hS : RS σ g (w + ((k + 1 : Nat) : Int)) need od st) (hl : (pre.length : Int) = w) (hTr : TRd σ g pre) (h0 : 0 ≤ inc) (h1 : inc ≤ 10000) (h2 : 0 ≤ st.1) (h3 : st.1 ≤ 595) (hn1 : -2147483648 ≤ need) (hn2 : need ≤ 2147483647) (hFS : FSd σ g w A) {m r : Int} (hm1 : 0 ≤ m) (hm2 : m < 6) (hr1 : 0 ≤ r) (hr2 : r < 4) (hb : 0 < aB A m) : C2 YX4_tryStep (2 * k + 6) σ [rf g, iv w, iv (inc + aB A m), iv m, iv r] (PV fun σ' => RS σ' g (w + ((k + 1 : Nat) : Int)) need od (mrg st pre inc (renO (ren need k) need A (1 + 4 * m.toNat + r.toNat))) ∧ FR σ σ' g w (w + 1)) := by
  obtain ⟨k1, k2, k3, k4, k5, k6⟩ := kd_renewal hg
  have ka := kd_ahead hg (i := w) (by omega) (by omega)
  have kb := kd_ahead hg (i := w + 1) (by omega) (by omega)
  have hbm := hW.2.2.1 m (by omega) (by omega)
  have hcd : ((1 + 4 * m.toNat + r.toNat - 1) / 4 : Nat) = m.toNat := by omega
  have hcr : ((1 + 4 * m.toNat + r.toNat - 1) % 4 : Nat) = r.toNat := by omega
  have em : ((m.toNat : Nat) : Int) = m := by omega
  have er : ((r.toNat : Nat) : Int) = r := by omega
  have ec : oC A (1 + 4 * m.toNat + r.toNat) = aB A m := by unfold oC; rw [if_neg (by omega), hcd, em]
  have ea : oA A (1 + 4 * m.toNat + r.toNat) = weekA (weaveR A m r) := by unfold oA; rw [if_neg (by omega), hcd, hcr, em, er]
  have eg : oGo need A (1 + 4 * m.toNat + r.toNat) ↔ (weaveZ A m r = 0 ∧ need ≤ bearsA (weekA (weaveR A m r)) 0) := by
    unfold oGo oOk
    rw [ea, hcd, hcr, em, er]
    exact ⟨fun h => ⟨h.1.resolve_left (by omega), h.2⟩, fun h => ⟨Or.inr h.1, h.2⟩⟩
  refine C2.of (by decide +kernel) (Nat.le_of_ble_eq_true rfl) ?_
  refine r_iload_n (Y := YX4_tryStep) dX4_tryStep_0 rfl ?_
  refine r_aload_n (Y := YX4_tryStep) dX4_tryStep_1 rfl ?_
  refine r_getV (Y := YX4_tryStep) (v := st.1) (jz := 8) fl_X4_43 dX4_tryStep_2 (hS.2.2.2.1) ?_
  refine r_icmp_ge (Y := YX4_tryStep) (tgt := 19) dX4_tryStep_5 (by decide) (fun c5 => ?_) (fun c5 => ?_) 
  · refine r_return (Y := YX4_tryStep) dX4_tryStep_19 ?_
    refine ⟨?_, fun _ _ _ => rfl⟩
    first
      | (rw [mrg_hi (fun q hq => by have := renO_ge hW (by omega) hq; omega)]; exact hS)
      | (rw [renO_no (fun h => absurd (eg.mp h) (by omega))]; exact hS)
  · refine r_aload_n (Y := YX4_tryStep) dX4_tryStep_8 rfl ?_
    refine r_iload_n (Y := YX4_tryStep) dX4_tryStep_9 rfl ?_
    refine r_iload_n (Y := YX4_tryStep) dX4_tryStep_10 rfl ?_
    refine r_iload (Y := YX4_tryStep) dX4_tryStep_11 rfl ?_
    refine r_iV3I (Y := YX4_tryStep) mv_X4_82 dX4_tryStep_13 (PI_zz (c_X4_holdsBehind_m hg hw1 (by omega) hA hW hFS hS.2.1 hn1 hn2 hm1 hm2 hr1 hr2 hb)) (by assumption) (fun σ13 z13 h13 => ?_)
    obtain ⟨rfl, h13⟩ := h13
    refine r_if_ne (Y := YX4_tryStep) (tgt := 20) dX4_tryStep_16 (by decide) (fun c16 => ?_) (fun c16 => ?_) 
    · refine r_aload_n (Y := YX4_tryStep) dX4_tryStep_20 rfl ?_
      refine r_getR (Y := YX4_tryStep) (δz := 1) fl_X4_11 dX4_tryStep_21 rfl rfl ?_
      refine r_iload_n (Y := YX4_tryStep) dX4_tryStep_24 rfl ?_
      refine r_iconst (Y := YX4_tryStep) dX4_tryStep_25 ?_
      refine r_iadd (Y := YX4_tryStep) dX4_tryStep_26 ?_
      first | refine r_aaload (Y := YX4_tryStep) (δz := 2) (sz := 4) dX4_tryStep_27 tg_12 rfl rfl ?_ | refine r_aaload (Y := YX4_tryStep) (δz := 1) (sz := 30) dX4_tryStep_27 tg_13 rfl rfl ?_ | refine r_aaload (Y := YX4_tryStep) (δz := 1) (sz := 23) dX4_tryStep_27 tg_14 rfl rfl ?_ | refine r_aaload (Y := YX4_tryStep) (δz := 1) (sz := 1) dX4_tryStep_27 tg_15 rfl rfl ?_
      refine r_astore (Y := YX4_tryStep) dX4_tryStep_28 ?_
      refine r_aload (Y := YX4_tryStep) dX4_tryStep_30 rfl ?_
      refine r_aload_n (Y := YX4_tryStep) dX4_tryStep_32 rfl ?_
      refine r_getR (Y := YX4_tryStep) (δz := 1) fl_X4_11 dX4_tryStep_33 rfl rfl ?_
      refine r_iload_n (Y := YX4_tryStep) dX4_tryStep_36 rfl ?_
      first | refine r_aaload (Y := YX4_tryStep) (δz := 2) (sz := 4) dX4_tryStep_37 tg_12 rfl rfl ?_ | refine r_aaload (Y := YX4_tryStep) (δz := 1) (sz := 30) dX4_tryStep_37 tg_13 rfl rfl ?_ | refine r_aaload (Y := YX4_tryStep) (δz := 1) (sz := 23) dX4_tryStep_37 tg_14 rfl rfl ?_ | refine r_aaload (Y := YX4_tryStep) (δz := 1) (sz := 1) dX4_tryStep_37 tg_15 rfl rfl ?_
      refine r_iV1V (Y := YX4_tryStep) mv_X4_46 dX4_tryStep_38 (c_X0_become kb ka hA hW (by omega)) (by assumption) (fun σ38 h38 => ?_)
      obtain ⟨b1, b2⟩ := h38
      refine r_iload_n (Y := YX4_tryStep) dX4_tryStep_41 rfl ?_
      refine r_iconst (Y := YX4_tryStep) dX4_tryStep_42 ?_
      refine r_icmp_eq (Y := YX4_tryStep) (tgt := 55) dX4_tryStep_43 (by decide) (fun c43 => absurd c43 (by omega)) (fun c43 => ?_) 
      refine r_aload (Y := YX4_tryStep) dX4_tryStep_46 rfl ?_
      refine r_iload_n (Y := YX4_tryStep) dX4_tryStep_48 rfl ?_
      refine r_iload (Y := YX4_tryStep) dX4_tryStep_49 rfl ?_
      refine r_iV2I (Y := YX4_tryStep) mv_X4_86 dX4_tryStep_51 (c_X0_weave kb b1 hW hm1 hm2 hr1 hr2) (by assumption) (fun σ51 z51 h51 => ?_)
      obtain ⟨_, b3, b4⟩ := h51
      refine r_pop (Y := YX4_tryStep) dX4_tryStep_54 ?_
      refine r_aload (Y := YX4_tryStep) dX4_tryStep_55 rfl ?_
      refine r_iV0V (Y := YX4_tryStep) mv_X4_90 dX4_tryStep_57 (c_X0_passWeek kb b3 (WA_weaveR hW hm1 hm2 hr1 hr2)) (by assumption) (fun σ57 h57 => ?_)
      obtain ⟨b5, b6⟩ := h57
      refine r_aload_n (Y := YX4_tryStep) dX4_tryStep_60 rfl ?_
      refine r_getR (Y := YX4_tryStep) (δz := 128) fl_X4_30 dX4_tryStep_61 rfl rfl ?_
      refine r_iload_n (Y := YX4_tryStep) dX4_tryStep_64 rfl ?_
      refine r_iload_n (Y := YX4_tryStep) dX4_tryStep_65 rfl ?_
      refine r_iconst (Y := YX4_tryStep) dX4_tryStep_66 ?_
      refine r_icmp_ne (Y := YX4_tryStep) (tgt := 75) dX4_tryStep_67 (by decide) (fun c67 => ?_) (fun c67 => absurd c67 (by omega)) 
      refine r_bipush (Y := YX4_tryStep) dX4_tryStep_75 ?_
      refine r_iload_n (Y := YX4_tryStep) dX4_tryStep_77 rfl ?_
      refine r_imul (Y := YX4_tryStep) dX4_tryStep_78 ?_
      refine r_iload (Y := YX4_tryStep) dX4_tryStep_79 rfl ?_
      refine r_iadd (Y := YX4_tryStep) dX4_tryStep_81 ?_
      refine r_iastore (Y := YX4_tryStep) dX4_tryStep_82 ?_
      refine r_aload_n (Y := YX4_tryStep) dX4_tryStep_83 rfl ?_
      refine r_iload_n (Y := YX4_tryStep) dX4_tryStep_84 rfl ?_
      refine r_iconst (Y := YX4_tryStep) dX4_tryStep_85 ?_
      refine r_iadd (Y := YX4_tryStep) dX4_tryStep_86 ?_
      refine r_iload_n (Y := YX4_tryStep) dX4_tryStep_87 rfl ?_
      have hgo : oGo need A (1 + 4 * m.toNat + r.toNat) := eg.mpr (by omega)
      have hfa : ∀ q i : Int, q < g + 1 + (1 + 23 * (w + 1)) ∨ g + 1 + (1 + 23 * (w + 1)) + 22 < q → σ57 q i = σ13 q i := fun q i h9 => by rw [b6 q i h9, b4 q i h9]; exact b2 q i h9
      have hfr : FR σ13 (up σ57 (g + 128) w (10 * m + r)) g w (w + 1) := fun q i h9 => by rw [← hfa q i (by omega)]; exact (by (try delta up); (try delta cpy); (try dsimp only); repeat (first | rw [if_pos (by omega)] | rw [if_neg (by omega)]); try (first | rfl | assumption | omega))
      have hck : cod (((1 + 4 * m.toNat + r.toNat) : Nat) : Int) = 10 * m + r := by unfold cod; rw [if_neg (by omega), show ((((1 + 4 * m.toNat + r.toNat : Nat)) : Int) - 1) / 4 = m by omega, show ((((1 + 4 * m.toNat + r.toNat : Nat)) : Int) - 1) % 4 = r by omega]
      have hS2 : RS (up σ57 (g + 128) w (10 * m + r)) g (w + 1 + k) need od st := by
        rw [show w + 1 + (k : Int) = w + ((k + 1 : Nat) : Int) by omega]
        exact hS.kept (fun q i h9 => by rw [← hfa q i (by omega)]; exact (by (try delta up); (try delta cpy); (try dsimp only); repeat (first | rw [if_pos (by omega)] | rw [if_neg (by omega)]); try (first | rfl | assumption | omega)))
      have hT2 : TRd (up σ57 (g + 128) w (10 * m + r)) g (pre ++ [(((1 + 4 * m.toNat + r.toNat) : Nat) : Int)]) := by
        intro i x hx
        by_cases hi : i < pre.length
        · rw [List.getElem?_append_left hi] at hx
          rw [← hTr i x hx, hfr _ _ (by omega)]
        · rw [List.getElem?_append_right (by omega)] at hx
          cases hj : i - pre.length with
          | zero =>
            rw [hj] at hx
            have e : (((1 + 4 * m.toNat + r.toNat) : Nat) : Int) = x := Option.some.inj hx
            rw [← e, hck, show (i : Int) = w by omega]
            exact up_same _ _ _ _
          | succ j => rw [hj] at hx; cases hx
      have hA2 : RA (up σ57 (g + 128) w (10 * m + r)) (g + 1 + (1 + 23 * (w + 1))) (weekA (weaveR A m r)) := b5.kept (fun q i c1 c2 _ => by (try delta up); (try delta cpy); (try dsimp only); repeat (first | rw [if_pos (by omega)] | rw [if_neg (by omega)]); try (first | rfl | assumption | omega))
      have hcall := hT _ g (w + 1) (weekA (weaveR A m r)) od (pre ++ [(((1 + 4 * m.toNat + r.toNat) : Nat) : Int)]) (inc + aB A m) need st hg (by omega) (by omega) hA2 (by rw [← ea]; exact WA_oA hW (by omega)) (by rw [← ea]; exact (hop_step (k := 0) hW hP (by omega) hgo.1).2) hS2 (by rw [List.length_append, List.length_singleton]; omega) hT2 (by omega) (by omega) h3 hn1 hn2
      refine r_iV2V (Y := YX4_tryStep) mv_X4_53 dX4_tryStep_88 (hcall) (by assumption) (fun σ88 h88 => ?_)
      refine r_return (Y := YX4_tryStep) dX4_tryStep_91 ?_
      obtain ⟨d1, d2⟩ := h88
      refine ⟨?_, hfr.tr (d2.weak (by omega) (by omega))⟩
      rw [renO_go hgo, ← mrg_map, ec, ea]
      rw [show w + 1 + (k : Int) = w + ((k + 1 : Nat) : Int) by omega] at d1
      exact d1
    · refine r_return (Y := YX4_tryStep) dX4_tryStep_19 ?_
      refine ⟨?_, fun _ _ _ => rfl⟩
      first
        | (rw [mrg_hi (fun q hq => by have := renO_ge hW (by omega) hq; omega)]; exact hS)
        | (rw [renO_no (fun h => absurd (eg.mp h) (by omega))]; exact hS)
