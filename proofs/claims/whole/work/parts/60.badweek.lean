/-! the model whole: renewals -/
theorem r_idiv_m1 {Y : ab_Y} {d : Nat} {σ : ab_S} {pc : Nat} {ls : List (Option Value)} {st : List Value} {Q : ab_S → Option Value → Prop} {x : Int} (hx : x = -1) (hd : decode Y.2.1 pc = .ok (.idiv, 1)) (kk : R2 Y d σ (pc + 1) ls (iv 0 :: st) Q) : R2 Y d σ pc ls (iv 4 :: iv x :: st) Q := by
  subst hx
  have e : Int32.ofInt (-1) / Int32.ofInt 4 = Int32.ofInt 0 := by decide
  unfold iv at kk
  rw [← e] at kk
  exact ab_idiv hd (by decide) kk
def FB (σ τ : ab_S) (m : Int) : Prop := ∀ k i : Int, (k < m + 13 ∨ m + 19 < k) → k ≠ m + 22 → ¬ (k = m ∧ (i = 23 ∨ i = 31)) → τ k i = σ k i
theorem FM.fb {σ τ : ab_S} {m : Int} (h : FM σ τ m) : FB σ τ m := fun k i a _ c => h k i a (by omega)
theorem FB.tr {σ τ υ : ab_S} {m : Int} (h1 : FB σ τ m) (h2 : FB τ υ m) : FB σ υ m := fun k i a b c => (h2 k i a b c).trans (h1 k i a b c)
theorem oA_0 (B : AB) : oA B 0 = weekA B := if_pos rfl
theorem oA_p {B : AB} {c : Nat} (h : c ≠ 0) : oA B c = weekA (weaveR B (((c - 1) / 4 : Nat) : Int) (((c - 1) % 4 : Nat) : Int)) := if_neg h
theorem oC_0 (B : AB) : oC B 0 = 0 := if_pos rfl
theorem oC_p {B : AB} {c : Nat} (h : c ≠ 0) : oC B c = aB B (((c - 1) / 4 : Nat) : Int) := if_neg h
theorem way_app {τ τ' : ab_S} {k : Int} {pre : List Int} {c : Int} (h : ∀ (i : Nat) (v : Int), pre[i]? = some v → τ k i = v) (h1 : τ' k (pre.length : Int) = c) (h2 : ∀ i : Int, i ≠ (pre.length : Int) → τ' k i = τ k i) : ∀ (i : Nat) (v : Int), (pre ++ [c])[i]? = some v → τ' k i = v := fun i v hv => by
  by_cases hi : i < pre.length
  · rw [List.getElem?_append_left hi] at hv
    rw [h2 _ (by omega)]
    exact h i v hv
  · have hi2 := (List.getElem?_eq_some_iff.mp hv).1
    rw [List.length_append, List.length_singleton] at hi2
    have hi3 : i = pre.length := by omega
    rw [List.getElem?_append_right (by omega), hi3, Nat.sub_self] at hv
    have e : c = v := Option.some.inj hv
    rw [← e, hi3]
    exact h1
set_option maxRecDepth 20000 in
theorem c_X9_badWeek {σ : ab_S} {m : Int} (hm : kd_ m 9 37) {A : AB} (hA : MM σ m A) (hW : WA A) {num w : Nat} {need : Int} (hw : w ≤ 4) (hnum : num < 25 ^ w) (hn1 : 0 ≤ need) (hn2 : need ≤ 9999) : C2 YX9_badWeek 3 σ [rf m, iv num, iv w, iv need] (PI fun σ' z => ((∃ p : Nat, rs need w A num = .inl p ∧ z = (p : Int) ∧ p < w) ∨ (∃ q : Int × List Int, rs need w A num = .inr q ∧ z = -6 ∧ σ' m 31 = q.1 ∧ ∀ (i : Nat) (c : Int), q.2[i]? = some c → σ' (m + 22) i = c)) ∧ FB σ σ' m) := by
  obtain ⟨k1, k2, k3, k4, k5, k6, k7, k8, k9, k10, k11, k12, k13, k14, k15, k16, k17, k18, k19, k20, k21, k22, k23, k24, k25, k26⟩ := kd_model hm
  have hpw := p25 w (by omega)
  refine C2.of (by decide +kernel) (Nat.le_of_ble_eq_true rfl) ?_
  refine r_aload_n (Y := YX9_badWeek) dX9_badWeek_0 rfl ?_
  refine r_iV0V (Y := YX9_badWeek) mv_X9_159 dX9_badWeek_1 (c_layNow hm hA hW) (by assumption) (fun σ1 h1 => ?_)
  obtain ⟨t1, t2⟩ := h1
  refine r_aload_n (Y := YX9_badWeek) dX9_badWeek_4 rfl ?_
  refine r_iconst (Y := YX9_badWeek) dX9_badWeek_5 ?_
  refine r_putI (Y := YX9_badWeek) (jz := 31) fp_X9_215 dX9_badWeek_6 ?_
  refine r_iconst (Y := YX9_badWeek) dX9_badWeek_9 ?_
  refine r_istore (Y := YX9_badWeek) dX9_badWeek_10 ?_
  refine r_iconst (Y := YX9_badWeek) dX9_badWeek_12 ?_
  refine r_istore (Y := YX9_badWeek) dX9_badWeek_13 ?_
  suffices hp : ∀ (f j : Nat), j + f = w - 1 → R2 YX9_badWeek 3 (up σ1 m 31 0) 15 [some (rf m), some (iv num), some (iv w), some (iv need), some (iv ((25 ^ j : Nat) : Int)), some (iv ((j : Int) + 1)), none, none, none] [] (PI fun σ' z => ((∃ p : Nat, rs need w A num = .inl p ∧ z = (p : Int) ∧ p < w) ∨ (∃ q : Int × List Int, rs need w A num = .inr q ∧ z = -6 ∧ σ' m 31 = q.1 ∧ ∀ (i : Nat) (c : Int), q.2[i]? = some c → σ' (m + 22) i = c)) ∧ FB σ σ' m) from
    R2.weak (by repeat first | exact trivial | refine And.intro rfl ?_) (hp (w - 1) 0 (by omega))
  intro f
  induction f with
  | zero =>
    intro j e1
    have e2 : j = w - 1 := by omega
    subst e2
    refine r_iload (Y := YX9_badWeek) dX9_badWeek_15 rfl ?_
    refine r_iload_n (Y := YX9_badWeek) dX9_badWeek_17 rfl ?_
    refine r_icmp_ge (Y := YX9_badWeek) (tgt := 34) dX9_badWeek_18 (by decide) (fun c18 => ?_) (fun c18 => absurd c18 (by omega)) 
    refine r_iload_n (Y := YX9_badWeek) dX9_badWeek_34 rfl ?_
    refine r_istore (Y := YX9_badWeek) dX9_badWeek_35 ?_
    refine r_iconst (Y := YX9_badWeek) dX9_badWeek_37 ?_
    refine r_istore (Y := YX9_badWeek) dX9_badWeek_38 ?_
    suffices hloop : ∀ (r k left : Nat) (part inc : Int) (pre : List Int) (B : AB) (τ : ab_S), k + r = w → left < 25 ^ r → (1 ≤ r → part = ((25 ^ (r - 1) : Nat) : Int)) → addR k inc pre (rs need r B left) = rs need w A num → pre.length = k → MT τ m B → WA B → τ m 31 = inc → (∀ (i : Nat) (v : Int), pre[i]? = some v → τ (m + 22) i = v) → FB σ τ m → R2 YX9_badWeek 3 τ 40 [some (rf m), some (iv num), some (iv w), some (iv need), some (iv part), some (iv left), some (iv k), none, none] [] (PI fun σ' z => ((∃ p : Nat, rs need w A num = .inl p ∧ z = (p : Int) ∧ p < w) ∨ (∃ q : Int × List Int, rs need w A num = .inr q ∧ z = -6 ∧ σ' m 31 = q.1 ∧ ∀ (i : Nat) (c : Int), q.2[i]? = some c → σ' (m + 22) i = c)) ∧ FB σ σ' m) from
      R2.weak (by repeat first | exact trivial | refine And.intro rfl ?_) (hloop w 0 num _ 0 [] A (up σ1 m 31 0) (by omega) hnum (fun _ => rfl) (by cases hx : rs need w A num with | inl q => show Sum.inl (0 + q) = Sum.inl q; rw [Nat.zero_add] | inr q => show Sum.inr (0 + q.1, [] ++ q.2) = Sum.inr q; rw [Int.zero_add, List.nil_append]) rfl (t1.kept (fun k i b => by (try delta up); (try delta cpy); (try dsimp only); repeat (first | rw [if_pos (by omega)] | rw [if_neg (by omega)]); try (first | rfl | assumption | omega))) hW (up_same _ _ _ _) (fun i v hv => by cases hv) (fun k i a b c => by rw [← t2 k i a (by omega)]; exact (by (try delta up); (try delta cpy); (try dsimp only); repeat (first | rw [if_pos (by omega)] | rw [if_neg (by omega)]); try (first | rfl | assumption | omega))))
    intro r
    induction r with
    | zero =>
      intro k left part inc pre B τ g1 g2 g3 g4 g5 g6 g7 g8 g9 hF
      have g4 : Sum.inr (inc + 0, pre ++ []) = rs need w A num := g4
      rw [Int.add_zero, List.append_nil] at g4
      refine r_iload (Y := YX9_badWeek) dX9_badWeek_40 rfl ?_
      refine r_iload_n (Y := YX9_badWeek) dX9_badWeek_42 rfl ?_
      refine r_icmp_ge (Y := YX9_badWeek) (tgt := 177) dX9_badWeek_43 (by decide) (fun c43 => ?_) (fun c43 => absurd c43 (by omega)) 
      refine r_bipush (Y := YX9_badWeek) dX9_badWeek_177 ?_
      refine r_ireturn (Y := YX9_badWeek) dX9_badWeek_179 ?_
      exact ⟨Or.inr ⟨(inc, pre), g4.symm, rfl, g8, g9⟩, hF⟩
    | succ r ih =>
      intro k left part inc pre B τ g1 g2 g3 g4 g5 g6 g7 g8 g9 hF
      have hpr := p25 r (by omega)
      have hpr1 := p25 (r + 1) (by omega)
      have g3 := g3 (by omega)
      rw [show r + 1 - 1 = r by omega] at g3
      subst g3
      obtain ⟨c, hc⟩ : ∃ c : Nat, c = left / 25 ^ r := ⟨_, rfl⟩
      obtain ⟨l2, hl2⟩ : ∃ l2 : Nat, l2 = left % 25 ^ r := ⟨_, rfl⟩
      have hc25 : c < 25 := by rw [hc]; exact Nat.div_lt_of_lt_mul (by rw [← Nat.pow_succ]; exact g2)
      have hl25 : l2 < 25 ^ r := by rw [hl2]; exact Nat.mod_lt _ (p25p r)
      rw [rs_succ, ← hc, ← hl2] at g4
      have hpart : 1 ≤ r → ((25 ^ r : Nat) : Int) / 25 = ((25 ^ (r - 1) : Nat) : Int) := fun hr => by
        obtain ⟨r', rfl⟩ : ∃ r', r = r' + 1 := ⟨r - 1, by omega⟩
        rw [show r' + 1 - 1 = r' by omega, Nat.pow_succ]
        omega
      have hno : ¬ oGo need B c → rs need w A num = .inl k := fun h => by
        rw [rsO_no h] at g4
        exact g4.symm
      have hgo : oGo need B c → addR (k + 1) (inc + oC B c) (pre ++ [(c : Int)]) (rs need r (oA B c) l2) = rs need w A num := fun h => by
        rw [rsO_go h, addR_add] at g4
        exact g4
      clear g4
      have hWo := WA_oA g7 hc25
      have ihb := ih (k + 1) l2 (((25 ^ r : Nat) : Int) / 25) (inc + oC B c) (pre ++ [(c : Int)]) (oA B c)
      have hbb := bears_bd hWo (Int.le_refl 0)
      by_cases c0 : c = 0
      · subst c0
        rw [oA_0, oC_0] at *
        refine r_iload (Y := YX9_badWeek) dX9_badWeek_40 rfl ?_
        refine r_iload_n (Y := YX9_badWeek) dX9_badWeek_42 rfl ?_
        refine r_icmp_ge (Y := YX9_badWeek) (tgt := 177) dX9_badWeek_43 (by decide) (fun c43 => absurd c43 (by omega)) (fun c43 => ?_) 
        refine r_aload_n (Y := YX9_badWeek) dX9_badWeek_46 rfl ?_
        refine r_getR (Y := YX9_badWeek) (δz := 22) fl_X9_73 dX9_badWeek_47 rfl rfl ?_
        refine r_iload (Y := YX9_badWeek) dX9_badWeek_50 rfl ?_
        refine r_iload (Y := YX9_badWeek) dX9_badWeek_52 rfl ?_
        refine r_iload (Y := YX9_badWeek) dX9_badWeek_54 rfl ?_
        refine r_idiv (Y := YX9_badWeek) dX9_badWeek_56 ?_
        refine r_top (Y := YX9_badWeek) (v := ((0 : Nat) : Int)) (by rw [hc, Int.natCast_ediv]) ?_
        refine r_iastore (Y := YX9_badWeek) dX9_badWeek_57 ?_
        refine r_iload (Y := YX9_badWeek) dX9_badWeek_58 rfl ?_
        refine r_iload (Y := YX9_badWeek) dX9_badWeek_60 rfl ?_
        refine r_irem (Y := YX9_badWeek) dX9_badWeek_62 ?_
        refine r_top (Y := YX9_badWeek) (v := (l2 : Int)) (by rw [hl2, Int.tmod_eq_emod_of_nonneg (by omega), Int.natCast_emod]) ?_
        refine r_istore (Y := YX9_badWeek) dX9_badWeek_63 ?_
        refine r_iload (Y := YX9_badWeek) dX9_badWeek_65 rfl ?_
        refine r_bipush (Y := YX9_badWeek) dX9_badWeek_67 ?_
        refine r_idiv (Y := YX9_badWeek) dX9_badWeek_69 ?_
        refine r_istore (Y := YX9_badWeek) dX9_badWeek_70 ?_
        refine r_aload_n (Y := YX9_badWeek) dX9_badWeek_72 rfl ?_
        refine r_getR (Y := YX9_badWeek) (δz := 22) fl_X9_73 dX9_badWeek_73 rfl rfl ?_
        refine r_iload (Y := YX9_badWeek) dX9_badWeek_76 rfl ?_
        refine r_iaV (Y := YX9_badWeek) (v := ((0 : Nat) : Int)) dX9_badWeek_78 (up_same _ _ _ _) ?_
        refine r_iconst (Y := YX9_badWeek) dX9_badWeek_79 ?_
        refine r_isub (Y := YX9_badWeek) dX9_badWeek_80 ?_
        refine r_iconst (Y := YX9_badWeek) dX9_badWeek_81 ?_
        refine r_idiv_m1 (Y := YX9_badWeek) (by omega) dX9_badWeek_82 ?_
        refine r_istore (Y := YX9_badWeek) dX9_badWeek_83 ?_
        refine r_aload_n (Y := YX9_badWeek) dX9_badWeek_85 rfl ?_
        refine r_getR (Y := YX9_badWeek) (δz := 22) fl_X9_73 dX9_badWeek_86 rfl rfl ?_
        refine r_iload (Y := YX9_badWeek) dX9_badWeek_89 rfl ?_
        refine r_iaV (Y := YX9_badWeek) (v := ((0 : Nat) : Int)) dX9_badWeek_91 (up_same _ _ _ _) ?_
        refine r_iconst (Y := YX9_badWeek) dX9_badWeek_92 ?_
        refine r_iadd (Y := YX9_badWeek) dX9_badWeek_93 ?_
        refine r_iconst (Y := YX9_badWeek) dX9_badWeek_94 ?_
        refine r_irem (Y := YX9_badWeek) dX9_badWeek_95 ?_
        refine r_istore (Y := YX9_badWeek) dX9_badWeek_96 ?_
        refine r_aload_n (Y := YX9_badWeek) dX9_badWeek_98 rfl ?_
        refine r_getR (Y := YX9_badWeek) (δz := 22) fl_X9_73 dX9_badWeek_99 rfl rfl ?_
        refine r_iload (Y := YX9_badWeek) dX9_badWeek_102 rfl ?_
        refine r_iaV (Y := YX9_badWeek) (v := ((0 : Nat) : Int)) dX9_badWeek_104 (up_same _ _ _ _) ?_
        refine r_if_le (Y := YX9_badWeek) (tgt := 122) dX9_badWeek_105 (by decide) (fun c105 => ?_) (fun c105 => absurd c105 (by omega)) 
        refine r_aload_n (Y := YX9_badWeek) dX9_badWeek_122 rfl ?_
        refine r_getR (Y := YX9_badWeek) (δz := 22) fl_X9_73 dX9_badWeek_123 rfl rfl ?_
        refine r_iload (Y := YX9_badWeek) dX9_badWeek_126 rfl ?_
        refine r_iaV (Y := YX9_badWeek) (v := ((0 : Nat) : Int)) dX9_badWeek_128 (up_same _ _ _ _) ?_
        refine r_if_le (Y := YX9_badWeek) (tgt := 156) dX9_badWeek_129 (by decide) (fun c129 => ?_) (fun c129 => absurd c129 (by omega)) 
        have w1 : MT (up τ (m + 22) k ((0 : Nat) : Int)) m B := g6.kept (fun q i b => by (try delta up); (try delta cpy); (try dsimp only); repeat (first | rw [if_pos (by omega)] | rw [if_neg (by omega)]); try (first | rfl | assumption | omega))
        refine r_aload_n (Y := YX9_badWeek) dX9_badWeek_156 rfl ?_
        refine r_iV0V (Y := YX9_badWeek) mv_X9_145 dX9_badWeek_157 (c_X9_goWeek hm w1 g7) (by assumption) (fun σ157 h157 => ?_)
        obtain ⟨b1, b2⟩ := h157
        refine r_aload_n (Y := YX9_badWeek) dX9_badWeek_160 rfl ?_
        refine r_iV0I (Y := YX9_badWeek) mv_X9_185 dX9_badWeek_161 (c_X9_borne hm b1 (WA_weekA g7)) (by assumption) (fun σ161 z161 h161 => ?_)
        obtain ⟨e161, rfl⟩ := h161
        subst e161
        refine r_iload_n (Y := YX9_badWeek) dX9_badWeek_164 rfl ?_
        refine r_icmp_ge (Y := YX9_badWeek) (tgt := 171) dX9_badWeek_165 (by decide) (fun c165 => ?_) (fun c165 => ?_) 
        · refine r_iinc (Y := YX9_badWeek) dX9_badWeek_171 rfl ?_
          refine r_goto (Y := YX9_badWeek) (tgt := 40) dX9_badWeek_174 (by decide) ?_
          refine R2.weak (by repeat first | exact trivial | refine And.intro rfl ?_) (ihb _ (by omega) hl25 hpart (hgo ⟨Or.inl rfl, by rw [oA_0]; omega⟩) (by rw [List.length_append, List.length_singleton, g5]) b1 (WA_weekA g7) ?_ ?_ ?_)
          · rw [b2 m 31 (by omega) (by omega), show up τ (m + 22) k ((0 : Nat) : Int) m 31 = τ m 31 by exact (by (try delta up); (try delta cpy); (try dsimp only); repeat (first | rw [if_pos (by omega)] | rw [if_neg (by omega)]); try (first | rfl | assumption | omega)), g8]; omega
          · refine way_app (c := ((0 : Nat) : Int)) g9 ?_ (fun i hi => ?_)
            · rw [b2 _ _ (by omega) (by omega), g5]; exact up_same _ _ _ _
            · rw [b2 _ _ (by omega) (by omega)]; exact up_ne (by omega)
          · exact hF.tr (fun q i a b c => by rw [b2 q i a (by omega)]; exact (by (try delta up); (try delta cpy); (try dsimp only); repeat (first | rw [if_pos (by omega)] | rw [if_neg (by omega)]); try (first | rfl | assumption | omega)))
        · refine r_iload (Y := YX9_badWeek) dX9_badWeek_168 rfl ?_
          refine r_ireturn (Y := YX9_badWeek) dX9_badWeek_170 ?_
          exact ⟨Or.inl ⟨k, hno (fun hx => by have hx2 := hx.2; rw [oA_0] at hx2; omega), rfl, by omega⟩, hF.tr (fun q i a b c => by rw [b2 q i a (by omega)]; exact (by (try delta up); (try delta cpy); (try dsimp only); repeat (first | rw [if_pos (by omega)] | rw [if_neg (by omega)]); try (first | rfl | assumption | omega)))⟩
      · rw [oA_p c0] at ihb hgo hbb hWo
        rw [oC_p c0] at ihb hgo
        obtain ⟨pm, hpm⟩ : ∃ pm : Nat, pm = (c - 1) / 4 := ⟨_, rfl⟩
        obtain ⟨pr, hprr⟩ : ∃ pr : Nat, pr = (c - 1) % 4 := ⟨_, rfl⟩
        have hwz : oGo need B c ↔ weaveZ B pm pr = 0 ∧ need ≤ bearsA (weekA (weaveR B pm pr)) 0 := by
          unfold oGo oOk
          rw [oA_p c0, ← hpm, ← hprr]
          exact ⟨fun h => ⟨h.1.resolve_left c0, h.2⟩, fun h => ⟨Or.inr h.1, h.2⟩⟩
        rw [← hpm, ← hprr] at ihb hgo hbb hWo
        have hwc := weave_cases B pm pr
        have hnw := nz_bd (weaveZ_bd B pm pr).1 (weaveZ_bd B pm pr).2
        have hbm := g7.2.2.1 pm (by omega) (by omega)
        refine r_iload (Y := YX9_badWeek) dX9_badWeek_40 rfl ?_
        refine r_iload_n (Y := YX9_badWeek) dX9_badWeek_42 rfl ?_
        refine r_icmp_ge (Y := YX9_badWeek) (tgt := 177) dX9_badWeek_43 (by decide) (fun c43 => absurd c43 (by omega)) (fun c43 => ?_) 
        refine r_aload_n (Y := YX9_badWeek) dX9_badWeek_46 rfl ?_
        refine r_getR (Y := YX9_badWeek) (δz := 22) fl_X9_73 dX9_badWeek_47 rfl rfl ?_
        refine r_iload (Y := YX9_badWeek) dX9_badWeek_50 rfl ?_
        refine r_iload (Y := YX9_badWeek) dX9_badWeek_52 rfl ?_
        refine r_iload (Y := YX9_badWeek) dX9_badWeek_54 rfl ?_
        refine r_idiv (Y := YX9_badWeek) dX9_badWeek_56 ?_
        refine r_top (Y := YX9_badWeek) (v := (c : Int)) (by rw [hc, Int.natCast_ediv]) ?_
        refine r_iastore (Y := YX9_badWeek) dX9_badWeek_57 ?_
        refine r_iload (Y := YX9_badWeek) dX9_badWeek_58 rfl ?_
        refine r_iload (Y := YX9_badWeek) dX9_badWeek_60 rfl ?_
        refine r_irem (Y := YX9_badWeek) dX9_badWeek_62 ?_
        refine r_top (Y := YX9_badWeek) (v := (l2 : Int)) (by rw [hl2, Int.tmod_eq_emod_of_nonneg (by omega), Int.natCast_emod]) ?_
        refine r_istore (Y := YX9_badWeek) dX9_badWeek_63 ?_
        refine r_iload (Y := YX9_badWeek) dX9_badWeek_65 rfl ?_
        refine r_bipush (Y := YX9_badWeek) dX9_badWeek_67 ?_
        refine r_idiv (Y := YX9_badWeek) dX9_badWeek_69 ?_
        refine r_istore (Y := YX9_badWeek) dX9_badWeek_70 ?_
        have w1 : MT (up τ (m + 22) k (c : Int)) m B := g6.kept (fun q i b => by (try delta up); (try delta cpy); (try dsimp only); repeat (first | rw [if_pos (by omega)] | rw [if_neg (by omega)]); try (first | rfl | assumption | omega))
        refine r_aload_n (Y := YX9_badWeek) dX9_badWeek_72 rfl ?_
        refine r_getR (Y := YX9_badWeek) (δz := 22) fl_X9_73 dX9_badWeek_73 rfl rfl ?_
        refine r_iload (Y := YX9_badWeek) dX9_badWeek_76 rfl ?_
        refine r_iaV (Y := YX9_badWeek) (v := (c : Int)) dX9_badWeek_78 (up_same _ _ _ _) ?_
        refine r_iconst (Y := YX9_badWeek) dX9_badWeek_79 ?_
        refine r_isub (Y := YX9_badWeek) dX9_badWeek_80 ?_
        refine r_iconst (Y := YX9_badWeek) dX9_badWeek_81 ?_
        refine r_idiv (Y := YX9_badWeek) dX9_badWeek_82 ?_
        refine r_top (Y := YX9_badWeek) (v := (pm : Int)) (by omega) ?_
        refine r_istore (Y := YX9_badWeek) dX9_badWeek_83 ?_
        refine r_aload_n (Y := YX9_badWeek) dX9_badWeek_85 rfl ?_
        refine r_getR (Y := YX9_badWeek) (δz := 22) fl_X9_73 dX9_badWeek_86 rfl rfl ?_
        refine r_iload (Y := YX9_badWeek) dX9_badWeek_89 rfl ?_
        refine r_iaV (Y := YX9_badWeek) (v := (c : Int)) dX9_badWeek_91 (up_same _ _ _ _) ?_
        refine r_iconst (Y := YX9_badWeek) dX9_badWeek_92 ?_
        refine r_iadd (Y := YX9_badWeek) dX9_badWeek_93 ?_
        refine r_iconst (Y := YX9_badWeek) dX9_badWeek_94 ?_
        refine r_irem (Y := YX9_badWeek) dX9_badWeek_95 ?_
        refine r_top (Y := YX9_badWeek) (v := (pr : Int)) (by rw [Int.tmod_eq_emod_of_nonneg (by omega)]; omega) ?_
        refine r_istore (Y := YX9_badWeek) dX9_badWeek_96 ?_
        refine r_aload_n (Y := YX9_badWeek) dX9_badWeek_98 rfl ?_
        refine r_getR (Y := YX9_badWeek) (δz := 22) fl_X9_73 dX9_badWeek_99 rfl rfl ?_
        refine r_iload (Y := YX9_badWeek) dX9_badWeek_102 rfl ?_
        refine r_iaV (Y := YX9_badWeek) (v := (c : Int)) dX9_badWeek_104 (up_same _ _ _ _) ?_
        refine r_if_le (Y := YX9_badWeek) (tgt := 122) dX9_badWeek_105 (by decide) (fun c105 => absurd c105 (by omega)) (fun c105 => ?_) 
        refine r_aload_n (Y := YX9_badWeek) dX9_badWeek_108 rfl ?_
        refine r_iload (Y := YX9_badWeek) dX9_badWeek_109 rfl ?_
        refine r_iload (Y := YX9_badWeek) dX9_badWeek_111 rfl ?_
        refine r_iV2I (Y := YX9_badWeek) mv_X9_152 dX9_badWeek_113 (c_X9_whyNoLock hm w1 g7 (p := pm) (r := pr) (by omega) (by omega) (by omega) (by omega)) (by assumption) (fun σ113 z113 h113 => ?_)
        obtain ⟨e113, rfl⟩ := h113
        subst e113
        refine r_if_lt (Y := YX9_badWeek) (tgt := 122) dX9_badWeek_116 (by decide) (fun c116 => ?_) (fun c116 => ?_) 
        · refine r_aload_n (Y := YX9_badWeek) dX9_badWeek_122 rfl ?_
          refine r_getR (Y := YX9_badWeek) (δz := 22) fl_X9_73 dX9_badWeek_123 rfl rfl ?_
          refine r_iload (Y := YX9_badWeek) dX9_badWeek_126 rfl ?_
          refine r_iaV (Y := YX9_badWeek) (v := (c : Int)) dX9_badWeek_128 (up_same _ _ _ _) ?_
          refine r_if_le (Y := YX9_badWeek) (tgt := 156) dX9_badWeek_129 (by decide) (fun c129 => absurd c129 (by omega)) (fun c129 => ?_) 
          refine r_aload_n (Y := YX9_badWeek) dX9_badWeek_132 rfl ?_
          refine r_dup (Y := YX9_badWeek) dX9_badWeek_133 ?_
          refine r_getV (Y := YX9_badWeek) (v := inc) (jz := 31) fl_X9_215 dX9_badWeek_134 ((by rw [← g8]; exact (by (try delta up); (try delta cpy); (try dsimp only); repeat (first | rw [if_pos (by omega)] | rw [if_neg (by omega)]); try (first | rfl | assumption | omega)))) ?_
          refine r_aload_n (Y := YX9_badWeek) dX9_badWeek_137 rfl ?_
          refine r_getR (Y := YX9_badWeek) (δz := 14) fl_X9_49 dX9_badWeek_138 rfl rfl ?_
          refine r_iload (Y := YX9_badWeek) dX9_badWeek_141 rfl ?_
          refine r_iaV (Y := YX9_badWeek) (v := aB B pm) dX9_badWeek_143 (w1.2.2.1 pm (by omega) (by omega)) ?_
          refine r_iadd (Y := YX9_badWeek) dX9_badWeek_144 ?_
          refine r_putI (Y := YX9_badWeek) (jz := 31) fp_X9_215 dX9_badWeek_145 ?_
          have w2 : MT (up (up τ (m + 22) k (c : Int)) m 31 (inc + aB B pm)) m B := g6.kept (fun q i b => by (try delta up); (try delta cpy); (try dsimp only); repeat (first | rw [if_pos (by omega)] | rw [if_neg (by omega)]); try (first | rfl | assumption | omega))
          have hq : (aR B pr).length < 8 ∧ weaveR B pm pr = setB (setR B pr (aR B pr ++ [((pm : Int), aB B pm, aWk B)])) pm 0 := by rcases hwc with q | q | q; (exfalso; omega); (exfalso; omega); exact ⟨by omega, q.2.2.2⟩
          have hWw := WA_weaveR g7 (m := pm) (r := pr) (by omega) (by omega) (by omega) (by omega)
          refine r_aload_n (Y := YX9_badWeek) dX9_badWeek_148 rfl ?_
          refine r_iload (Y := YX9_badWeek) dX9_badWeek_149 rfl ?_
          refine r_iload (Y := YX9_badWeek) dX9_badWeek_151 rfl ?_
          refine r_iV2V (Y := YX9_badWeek) mv_X9_155 dX9_badWeek_153 (c_X9_weave hm w2 g7 (p := pm) (r := pr) (by omega) (by omega) (by omega) (by omega) hq.1) (by assumption) (fun σ153 h153 => ?_)
          obtain ⟨v1, v2⟩ := h153
          rw [← hq.2] at v1
          refine r_aload_n (Y := YX9_badWeek) dX9_badWeek_156 rfl ?_
          refine r_iV0V (Y := YX9_badWeek) mv_X9_145 dX9_badWeek_157 (c_X9_goWeek hm v1 hWw) (by assumption) (fun σ157 h157 => ?_)
          obtain ⟨b1, b2⟩ := h157
          refine r_aload_n (Y := YX9_badWeek) dX9_badWeek_160 rfl ?_
          refine r_iV0I (Y := YX9_badWeek) mv_X9_185 dX9_badWeek_161 (c_X9_borne hm b1 (WA_weekA hWw)) (by assumption) (fun σ161 z161 h161 => ?_)
          obtain ⟨e161, rfl⟩ := h161
          subst e161
          refine r_iload_n (Y := YX9_badWeek) dX9_badWeek_164 rfl ?_
          refine r_icmp_ge (Y := YX9_badWeek) (tgt := 171) dX9_badWeek_165 (by decide) (fun c165 => ?_) (fun c165 => ?_) 
          · refine r_iinc (Y := YX9_badWeek) dX9_badWeek_171 rfl ?_
            refine r_goto (Y := YX9_badWeek) (tgt := 40) dX9_badWeek_174 (by decide) ?_
            refine R2.weak (by repeat first | exact trivial | refine And.intro rfl ?_) (ihb _ (by omega) hl25 hpart (hgo (hwz.mpr ⟨by omega, by omega⟩)) (by rw [List.length_append, List.length_singleton, g5]) b1 (WA_weekA hWw) ?_ ?_ ?_)
            · rw [b2 m 31 (by omega) (by omega), v2 m 31 (by omega) (by omega)]; exact up_same _ _ _ _
            · refine way_app (c := (c : Int)) g9 ?_ (fun i hi => ?_)
              · rw [b2 _ _ (by omega) (by omega), v2 _ _ (by omega) (by omega), g5]; exact (by (try delta up); (try delta cpy); (try dsimp only); repeat (first | rw [if_pos (by omega)] | rw [if_neg (by omega)]); try (first | rfl | assumption | omega))
              · rw [b2 _ _ (by omega) (by omega), v2 _ _ (by omega) (by omega)]; exact (by (try delta up); (try delta cpy); (try dsimp only); repeat (first | rw [if_pos (by omega)] | rw [if_neg (by omega)]); try (first | rfl | assumption | omega))
            · exact hF.tr (fun q i a b c => by rw [b2 q i a (by omega), v2 q i a (by omega)]; exact (by (try delta up); (try delta cpy); (try dsimp only); repeat (first | rw [if_pos (by omega)] | rw [if_neg (by omega)]); try (first | rfl | assumption | omega)))
          · refine r_iload (Y := YX9_badWeek) dX9_badWeek_168 rfl ?_
            refine r_ireturn (Y := YX9_badWeek) dX9_badWeek_170 ?_
            exact ⟨Or.inl ⟨k, hno (fun hx => by have hx2 := (hwz.mp hx).2; omega), rfl, by omega⟩, hF.tr (fun q i a b c => by rw [b2 q i a (by omega), v2 q i a (by omega)]; exact (by (try delta up); (try delta cpy); (try dsimp only); repeat (first | rw [if_pos (by omega)] | rw [if_neg (by omega)]); try (first | rfl | assumption | omega)))⟩
        · refine r_iload (Y := YX9_badWeek) dX9_badWeek_119 rfl ?_
          refine r_ireturn (Y := YX9_badWeek) dX9_badWeek_121 ?_
          exact ⟨Or.inl ⟨k, hno (fun hx => by have hx2 := (hwz.mp hx).1; omega), rfl, by omega⟩, hF.tr (fun q i a b c => by exact (by (try delta up); (try delta cpy); (try dsimp only); repeat (first | rw [if_pos (by omega)] | rw [if_neg (by omega)]); try (first | rfl | assumption | omega)))⟩
  | succ f ih =>
    intro j e1
    have ih := ih (j + 1) (by omega)
    rw [Nat.pow_succ, Int.natCast_mul] at ih
    refine r_iload (Y := YX9_badWeek) dX9_badWeek_15 rfl ?_
    refine r_iload_n (Y := YX9_badWeek) dX9_badWeek_17 rfl ?_
    refine r_icmp_ge (Y := YX9_badWeek) (tgt := 34) dX9_badWeek_18 (by decide) (fun c18 => absurd c18 (by omega)) (fun c18 => ?_) 
    refine r_iload (Y := YX9_badWeek) dX9_badWeek_21 rfl ?_
    refine r_bipush (Y := YX9_badWeek) dX9_badWeek_23 ?_
    refine r_imul (Y := YX9_badWeek) dX9_badWeek_25 ?_
    refine r_istore (Y := YX9_badWeek) dX9_badWeek_26 ?_
    refine r_iinc (Y := YX9_badWeek) dX9_badWeek_28 rfl ?_
    refine r_goto (Y := YX9_badWeek) (tgt := 15) dX9_badWeek_31 (by decide) ?_
    exact R2.weak (by repeat first | exact trivial | refine And.intro rfl ?_) ih
