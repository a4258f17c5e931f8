/-! the model whole: renewals, the fewest inches -/
def fz (x : Int) : Int := if x = 595 then -6 else x
def FC (σ τ : ab_S) (m : Int) : Prop := ∀ k i : Int, (k < m + 13 ∨ m + 19 < k) → k ≠ m + 22 → k ≠ m + 23 → ¬ (k = m ∧ (i = 23 ∨ i = 31)) → τ k i = σ k i
theorem FC.tb {σ τ υ : ab_S} {m : Int} (h1 : FC σ τ m) (h2 : FB τ υ m) : FC σ υ m := fun k i a b c d => (h2 k i a b d).trans (h1 k i a b c d)
theorem FC.fy {σ τ : ab_S} {m : Int} (h : FC σ τ m) : FY σ τ m := fun k i b => h k i (by omega) (by omega) (by omega) (by omega)
theorem HM.fc {σ τ : ab_S} {m : Int} {G : GS} (h : HM σ m G) (hf : FC σ τ m) : HM τ m G := h.kept (fun k i b => hf k i (by omega) (by omega) (by omega) (by omega))
theorem addR_0 (x : Nat ⊕ (Int × List Int)) : addR 0 0 [] x = x := by
  cases x with
  | inl q => show Sum.inl (0 + q) = Sum.inl q; rw [Nat.zero_add]
  | inr q => show Sum.inr (0 + q.1, [] ++ q.2) = Sum.inr q; rw [Int.zero_add, List.nil_append]
set_option maxRecDepth 20000 in
theorem c_X9_renewed {σ : ab_S} {m : Int} {G : GS} (hm : kd_ m 9 37) (hM : HM σ m G) (hG : OKG G) {w : Int} (hw1 : -2147483648 ≤ w) (hw2 : w ≤ 2147483647) {n : Int} (hn1 : -2147483648 ≤ n) (hn2 : n ≤ 2147483647) {i : Int} (hi1 : -2147483648 ≤ i) (hi2 : i ≤ 2147483647) : C2 YX9_renewed 4 σ [rf m, iv w, iv n, iv i] (PI fun σ' z => z = (renewF G w n i).1 ∧ HM σ' m (renewF G w n i).2 ∧ FY σ σ' m) := by
  obtain ⟨k1, k2, k3, k4, k5, k6, k7, k8, k9, k10, k11, k12, k13, k14, k15, k16, k17, k18, k19, k20, k21, k22, k23, k24, k25, k26⟩ := kd_model hm
  have hA := hM.1
  have hW := hG.1.1.1
  have hWL := hG.1.1.2
  refine C2.of (by decide +kernel) (Nat.le_of_ble_eq_true rfl) ?_
  refine r_iload_n (Y := YX9_renewed) dX9_renewed_0 rfl ?_
  refine r_i2l (Y := YX9_renewed) dX9_renewed_1 ?_
  refine r_lconst (Y := YX9_renewed) (v := 0) dX9_renewed_2 rfl ?_
  refine r_ldc2 (Y := YX9_renewed) (z := 4) wc_X9_218 dX9_renewed_3 (by decide) ?_
  refine r_iS3I (Y := YX9_renewed) ms_X9_95 dX9_renewed_6 (c_in (by omega) (by omega) (by omega) (by omega) (by omega) (by omega)) (fun σ6 z6 h6 => ?_)
  obtain ⟨rfl, h6⟩ := h6
  refine r_if_eq (Y := YX9_renewed) (tgt := 39) dX9_renewed_9 (by decide) (fun c9 => ?_) (fun c9 => ?_) 
  · refine r_bipush (Y := YX9_renewed) dX9_renewed_39 ?_
    refine r_ireturn (Y := YX9_renewed) dX9_renewed_41 ?_
    first
      | (exfalso; omega)
      | (unfold renewF; (repeat (first | rw [if_pos (by omega)] | rw [if_neg (by omega)])); exact ⟨rfl, hM, fun _ _ _ => rfl⟩)
  · refine r_iload_n (Y := YX9_renewed) dX9_renewed_12 rfl ?_
    refine r_i2l (Y := YX9_renewed) dX9_renewed_13 ?_
    refine r_lconst (Y := YX9_renewed) (v := 0) dX9_renewed_14 rfl ?_
    refine r_ldc2 (Y := YX9_renewed) (z := 9999) wc_X9_202 dX9_renewed_15 (by decide) ?_
    refine r_iS3I (Y := YX9_renewed) ms_X9_95 dX9_renewed_18 (c_in (by omega) (by omega) (by omega) (by omega) (by omega) (by omega)) (fun σ18 z18 h18 => ?_)
    obtain ⟨rfl, h18⟩ := h18
    refine r_if_eq (Y := YX9_renewed) (tgt := 39) dX9_renewed_21 (by decide) (fun c21 => ?_) (fun c21 => ?_) 
    · refine r_bipush (Y := YX9_renewed) dX9_renewed_39 ?_
      refine r_ireturn (Y := YX9_renewed) dX9_renewed_41 ?_
      first
        | (exfalso; omega)
        | (unfold renewF; (repeat (first | rw [if_pos (by omega)] | rw [if_neg (by omega)])); exact ⟨rfl, hM, fun _ _ _ => rfl⟩)
    · refine r_iload_n (Y := YX9_renewed) dX9_renewed_24 rfl ?_
      refine r_i2l (Y := YX9_renewed) dX9_renewed_25 ?_
      refine r_ldc2 (Y := YX9_renewed) (z := -1) wc_X9_220 dX9_renewed_26 (by decide) ?_
      refine r_iload_n (Y := YX9_renewed) dX9_renewed_29 rfl ?_
      refine r_iconst (Y := YX9_renewed) dX9_renewed_30 ?_
      refine r_isub (Y := YX9_renewed) dX9_renewed_31 ?_
      refine r_i2l (Y := YX9_renewed) dX9_renewed_32 ?_
      refine r_iS3I (Y := YX9_renewed) ms_X9_95 dX9_renewed_33 (c_in (by omega) (by omega) (by omega) (by omega) (by omega) (by omega)) (fun σ33 z33 h33 => ?_)
      obtain ⟨rfl, h33⟩ := h33
      refine r_if_ne (Y := YX9_renewed) (tgt := 42) dX9_renewed_36 (by decide) (fun c36 => ?_) (fun c36 => ?_) 
      · refine r_iconst (Y := YX9_renewed) dX9_renewed_42 ?_
        refine r_istore (Y := YX9_renewed) dX9_renewed_43 ?_
        refine r_iconst (Y := YX9_renewed) dX9_renewed_45 ?_
        refine r_istore (Y := YX9_renewed) dX9_renewed_46 ?_
        obtain ⟨wn, rfl⟩ : ∃ wn : Nat, w = wn := ⟨w.toNat, by omega⟩
        have hpw := p25 wn (by omega)
        suffices hl1 : ∀ (k j : Nat), j + k = wn → R2 YX9_renewed 4 σ33 48 [some (rf m), some (iv wn), some (iv n), some (iv i), some (iv ((25 ^ j : Nat) : Int)), some (iv j), none, none, none, none] [] (PI fun σ' z => z = (renewF G (wn : Int) n i).1 ∧ HM σ' m (renewF G (wn : Int) n i).2 ∧ FY σ33 σ' m) from
          R2.weak (by repeat first | exact trivial | refine And.intro rfl ?_) (hl1 wn 0 (by omega))
        intro k
        induction k with
        | zero =>
          intro j e1
          have e2 : j = wn := by omega
          rw [e2]
          refine r_iload (Y := YX9_renewed) dX9_renewed_48 rfl ?_
          refine r_iload_n (Y := YX9_renewed) dX9_renewed_50 rfl ?_
          refine r_icmp_ge (Y := YX9_renewed) (tgt := 67) dX9_renewed_51 (by decide) (fun c51 => ?_) (fun c51 => absurd c51 (by omega)) 
          refine r_bipush (Y := YX9_renewed) dX9_renewed_67 ?_
          refine r_istore (Y := YX9_renewed) dX9_renewed_69 ?_
          refine r_iconst (Y := YX9_renewed) dX9_renewed_71 ?_
          refine r_istore (Y := YX9_renewed) dX9_renewed_72 ?_
          have h0 : (fun (num : Nat) (st : Int × List Int) => 0 ≤ st.1 → st.1 ≤ 595 → ∀ τ : ab_S, (∀ (j : Nat) (c : Int), st.2[j]? = some c → τ (m + 23) j = c) → FC σ33 τ m → R2 YX9_renewed 4 τ 74 [some (rf m), some (iv wn), some (iv n), some (iv i), some (iv ((25 ^ wn : Nat) : Int)), some (iv (fz st.1)), some (iv num), none, none, none] [] (PI fun σ' z => z = (renewF G (wn : Int) n i).1 ∧ HM σ' m (renewF G (wn : Int) n i).2 ∧ FY σ33 σ' m)) 0 (595, []) := by
            refine ren_blk (need := n) (w := wn) (A0 := G.1.1) (K := fun (num : Nat) (st : Int × List Int) => 0 ≤ st.1 → st.1 ≤ 595 → ∀ τ : ab_S, (∀ (j : Nat) (c : Int), st.2[j]? = some c → τ (m + 23) j = c) → FC σ33 τ m → R2 YX9_renewed 4 τ 74 [some (rf m), some (iv wn), some (iv n), some (iv i), some (iv ((25 ^ wn : Nat) : Int)), some (iv (fz st.1)), some (iv num), none, none, none] [] (PI fun σ' z => z = (renewF G (wn : Int) n i).1 ∧ HM σ' m (renewF G (wn : Int) n i).2 ∧ FY σ33 σ' m)) ?_ ?_ wn 0 0 0 [] G.1.1 (595, []) (by omega) (by omega) (fun r hr => ?_) ?_
            · intro num st p hn hr hk s1 s2 τ e1 hF
              have hMt := hM.fc hF
              refine r_iload (Y := YX9_renewed) dX9_renewed_74 rfl ?_
              refine r_iload (Y := YX9_renewed) dX9_renewed_76 rfl ?_
              refine r_icmp_ge (Y := YX9_renewed) (tgt := 192) dX9_renewed_78 (by decide) (fun c78 => absurd c78 (by omega)) (fun c78 => ?_) 
              refine r_aload_n (Y := YX9_renewed) dX9_renewed_81 rfl ?_
              refine r_iload (Y := YX9_renewed) dX9_renewed_82 rfl ?_
              refine r_iload_n (Y := YX9_renewed) dX9_renewed_84 rfl ?_
              refine r_iload_n (Y := YX9_renewed) dX9_renewed_85 rfl ?_
              refine r_iV3I (Y := YX9_renewed) mv_X9_222 dX9_renewed_86 (c_X9_badWeek hm hMt.1 hW (num := num) (w := wn) (need := n) (by omega) hn (by omega) (by omega)) (by assumption) (fun σ86 z86 h86 => ?_)
              obtain ⟨d86, fb86⟩ := h86
              have hz : z86 = (p : Int) ∧ p < wn := by
                rcases d86 with ⟨p2, q1, q2, q3⟩ | ⟨q, q1, _⟩
                · rw [hr] at q1
                  have e := Sum.inl.inj q1
                  subst e
                  exact ⟨q2, q3⟩
                · rw [hr] at q1
                  cases q1
              obtain ⟨rfl, hp2⟩ := hz
              refine r_istore (Y := YX9_renewed) dX9_renewed_89 ?_
              refine r_iload (Y := YX9_renewed) dX9_renewed_91 rfl ?_
              refine r_if_ge (Y := YX9_renewed) (tgt := 145) dX9_renewed_93 (by decide) (fun c93 => ?_) (fun c93 => absurd c93 (by omega)) 
              refine r_iconst (Y := YX9_renewed) dX9_renewed_145 ?_
              refine r_istore (Y := YX9_renewed) dX9_renewed_146 ?_
              refine r_iload (Y := YX9_renewed) dX9_renewed_148 rfl ?_
              refine r_if_ge (Y := YX9_renewed) (tgt := 157) dX9_renewed_150 (by decide) (fun c150 => ?_) (fun c150 => absurd c150 (by omega)) 
              refine r_iload (Y := YX9_renewed) dX9_renewed_157 rfl ?_
              refine r_iconst (Y := YX9_renewed) dX9_renewed_159 ?_
              refine r_iadd (Y := YX9_renewed) dX9_renewed_160 ?_
              refine r_istore (Y := YX9_renewed) dX9_renewed_161 ?_
              suffices hst : ∀ (f j : Nat), p + 1 + j + f = wn → R2 YX9_renewed 4 σ86 163 [some (rf m), some (iv wn), some (iv n), some (iv i), some (iv ((25 ^ wn : Nat) : Int)), some (iv (fz st.1)), some (iv num), some (iv p), some (iv ((25 ^ j : Nat) : Int)), some (iv ((p : Int) + 1 + j))] [] (PI fun σ' z => z = (renewF G (wn : Int) n i).1 ∧ HM σ' m (renewF G (wn : Int) n i).2 ∧ FY σ33 σ' m) from by
                have h0 := hst (wn - p - 1) 0 (by omega)
                rw [show (p : Int) + 1 + ((0 : Nat) : Int) = (p : Int) + 1 by omega] at h0
                exact R2.weak (by repeat first | exact trivial | refine And.intro rfl ?_) h0
              intro f
              induction f with
              | zero =>
                intro j g1
                have hk := hk s1 s2 σ86 (fun j c hc => by rw [fb86 _ _ (by omega) (by omega) (by omega)]; exact e1 j c hc) (hF.tb fb86)
                rw [show wn - p - 1 = j by omega, Int.natCast_add] at hk
                refine r_iload (Y := YX9_renewed) dX9_renewed_163 rfl ?_
                refine r_iload_n (Y := YX9_renewed) dX9_renewed_165 rfl ?_
                refine r_icmp_ge (Y := YX9_renewed) (tgt := 182) dX9_renewed_166 (by decide) (fun c166 => ?_) (fun c166 => absurd c166 (by omega)) 
                refine r_iload (Y := YX9_renewed) dX9_renewed_182 rfl ?_
                refine r_iload (Y := YX9_renewed) dX9_renewed_184 rfl ?_
                refine r_iadd (Y := YX9_renewed) dX9_renewed_186 ?_
                refine r_istore (Y := YX9_renewed) dX9_renewed_187 ?_
                refine r_goto (Y := YX9_renewed) (tgt := 74) dX9_renewed_189 (by decide) ?_
                exact R2.weak (by repeat first | exact trivial | refine And.intro rfl ?_) hk
              | succ f ih =>
                intro j g1
                have ih := ih (j + 1) (by omega)
                rw [Nat.pow_succ, Int.natCast_mul, show (p : Int) + 1 + ((j + 1 : Nat) : Int) = (p : Int) + 1 + (j : Int) + 1 by omega] at ih
                refine r_iload (Y := YX9_renewed) dX9_renewed_163 rfl ?_
                refine r_iload_n (Y := YX9_renewed) dX9_renewed_165 rfl ?_
                refine r_icmp_ge (Y := YX9_renewed) (tgt := 182) dX9_renewed_166 (by decide) (fun c166 => absurd c166 (by omega)) (fun c166 => ?_) 
                refine r_iload (Y := YX9_renewed) dX9_renewed_169 rfl ?_
                refine r_bipush (Y := YX9_renewed) dX9_renewed_171 ?_
                refine r_imul (Y := YX9_renewed) dX9_renewed_173 ?_
                refine r_istore (Y := YX9_renewed) dX9_renewed_174 ?_
                refine r_iinc (Y := YX9_renewed) dX9_renewed_176 rfl ?_
                refine r_goto (Y := YX9_renewed) (tgt := 163) dX9_renewed_179 (by decide) ?_
                exact R2.weak (by repeat first | exact trivial | refine And.intro rfl ?_) ih
            · intro num st q hn hr hk s1 s2 τ e1 hF
              have hMt := hM.fc hF
              have hql := rs_lt hW hn hr
              have hqb := (rs_bd hW hn hr).2.2.1
              have hfz : (st.1 = 595 ∧ fz st.1 = -6) ∨ (st.1 ≠ 595 ∧ fz st.1 = st.1) := by
                unfold fz
                by_cases h : st.1 = 595
                · rw [if_pos h]; exact Or.inl ⟨h, rfl⟩
                · rw [if_neg h]; exact Or.inr ⟨h, rfl⟩
              by_cases hlt : q.1 < st.1
              · have em : mrg st [] 0 (some q) = q := by
                  show (if 0 + q.1 < st.1 then (0 + q.1, [] ++ q.2) else st) = q
                  rw [if_pos (by omega), Int.zero_add, List.nil_append]
                rw [em] at hk
                have hk := hk hql.1 (by omega)
                have hfq : fz q.1 = q.1 := if_neg (by omega)
                rw [hfq] at hk
                refine r_iload (Y := YX9_renewed) dX9_renewed_74 rfl ?_
                refine r_iload (Y := YX9_renewed) dX9_renewed_76 rfl ?_
                refine r_icmp_ge (Y := YX9_renewed) (tgt := 192) dX9_renewed_78 (by decide) (fun c78 => absurd c78 (by omega)) (fun c78 => ?_) 
                refine r_aload_n (Y := YX9_renewed) dX9_renewed_81 rfl ?_
                refine r_iload (Y := YX9_renewed) dX9_renewed_82 rfl ?_
                refine r_iload_n (Y := YX9_renewed) dX9_renewed_84 rfl ?_
                refine r_iload_n (Y := YX9_renewed) dX9_renewed_85 rfl ?_
                refine r_iV3I (Y := YX9_renewed) mv_X9_222 dX9_renewed_86 (c_X9_badWeek hm hMt.1 hW (num := num) (w := wn) (need := n) (by omega) hn (by omega) (by omega)) (by assumption) (fun σ86 z86 h86 => ?_)
                obtain ⟨d86, fb86⟩ := h86
                have hz : z86 = -6 ∧ σ86 m 31 = q.1 ∧ ∀ (i : Nat) (c : Int), q.2[i]? = some c → σ86 (m + 22) i = c := by
                  rcases d86 with ⟨p2, q1, q2, q3⟩ | ⟨q9, q1, q2, q3, q4⟩
                  · rw [hr] at q1
                    cases q1
                  · rw [hr] at q1
                    have e := Sum.inr.inj q1
                    subst e
                    exact ⟨q2, q3, q4⟩
                obtain ⟨rfl, hz2, hz3⟩ := hz
                refine r_istore (Y := YX9_renewed) dX9_renewed_89 ?_
                refine r_iload (Y := YX9_renewed) dX9_renewed_91 rfl ?_
                refine r_if_ge (Y := YX9_renewed) (tgt := 145) dX9_renewed_93 (by decide) (fun c93 => absurd c93 (by omega)) (fun c93 => ?_) 
                refine r_iload (Y := YX9_renewed) dX9_renewed_96 rfl ?_
                refine r_if_lt (Y := YX9_renewed) (tgt := 110) dX9_renewed_98 (by decide) (fun c98 => ?_) (fun c98 => ?_) 
                · refine r_aload_n (Y := YX9_renewed) dX9_renewed_110 rfl ?_
                  refine r_getV (Y := YX9_renewed) (v := q.1) (jz := 31) fl_X9_215 dX9_renewed_111 (hz2) ?_
                  refine r_istore (Y := YX9_renewed) dX9_renewed_114 ?_
                  refine r_iconst (Y := YX9_renewed) dX9_renewed_116 ?_
                  refine r_istore (Y := YX9_renewed) dX9_renewed_117 ?_
                  suffices hcp : ∀ (f j : Nat) (υ : ab_S), j + f = wn → (∀ x : Int, 0 ≤ x → x < j → υ (m + 23) x = σ86 (m + 22) x) → (∀ k i : Int, k ≠ m + 23 → υ k i = σ86 k i) → R2 YX9_renewed 4 υ 119 [some (rf m), some (iv wn), some (iv n), some (iv i), some (iv ((25 ^ wn : Nat) : Int)), some (iv q.1), some (iv num), some (iv (-6)), some (iv j), none] [] (PI fun σ' z => z = (renewF G (wn : Int) n i).1 ∧ HM σ' m (renewF G (wn : Int) n i).2 ∧ FY σ33 σ' m) from
                    R2.weak (by repeat first | exact trivial | refine And.intro rfl ?_) (hcp wn 0 σ86 (by omega) (fun x a b => by omega) (fun _ _ _ => rfl))
                  intro f
                  induction f with
                  | zero =>
                    intro j υ g1 g2 g3
                    have g4 : j = wn := by omega
                    subst g4
                    have hk := hk υ (fun x c hc => by rw [g2 x (by omega) (by have := (List.getElem?_eq_some_iff.mp hc).1; omega)]; exact hz3 x c hc) (fun k i a b c d => by rw [g3 k i c]; exact (hF.tb fb86) k i a b c d)
                    refine r_iload (Y := YX9_renewed) dX9_renewed_119 rfl ?_
                    refine r_iload_n (Y := YX9_renewed) dX9_renewed_121 rfl ?_
                    refine r_icmp_ge (Y := YX9_renewed) (tgt := 145) dX9_renewed_122 (by decide) (fun c122 => ?_) (fun c122 => absurd c122 (by omega)) 
                    refine r_iconst (Y := YX9_renewed) dX9_renewed_145 ?_
                    refine r_istore (Y := YX9_renewed) dX9_renewed_146 ?_
                    refine r_iload (Y := YX9_renewed) dX9_renewed_148 rfl ?_
                    refine r_if_ge (Y := YX9_renewed) (tgt := 157) dX9_renewed_150 (by decide) (fun c150 => absurd c150 (by omega)) (fun c150 => ?_) 
                    refine r_iload_n (Y := YX9_renewed) dX9_renewed_153 rfl ?_
                    refine r_goto (Y := YX9_renewed) (tgt := 161) dX9_renewed_154 (by decide) ?_
                    refine r_istore (Y := YX9_renewed) dX9_renewed_161 ?_
                    refine r_iload (Y := YX9_renewed) dX9_renewed_163 rfl ?_
                    refine r_iload_n (Y := YX9_renewed) dX9_renewed_165 rfl ?_
                    refine r_icmp_ge (Y := YX9_renewed) (tgt := 182) dX9_renewed_166 (by decide) (fun c166 => ?_) (fun c166 => absurd c166 (by omega)) 
                    refine r_iload (Y := YX9_renewed) dX9_renewed_182 rfl ?_
                    refine r_iload (Y := YX9_renewed) dX9_renewed_184 rfl ?_
                    refine r_iadd (Y := YX9_renewed) dX9_renewed_186 ?_
                    refine r_istore (Y := YX9_renewed) dX9_renewed_187 ?_
                    refine r_goto (Y := YX9_renewed) (tgt := 74) dX9_renewed_189 (by decide) ?_
                    exact R2.weak (by repeat first | exact trivial | refine And.intro rfl ?_) hk
                  | succ f ih =>
                    intro j υ g1 g2 g3
                    refine r_iload (Y := YX9_renewed) dX9_renewed_119 rfl ?_
                    refine r_iload_n (Y := YX9_renewed) dX9_renewed_121 rfl ?_
                    refine r_icmp_ge (Y := YX9_renewed) (tgt := 145) dX9_renewed_122 (by decide) (fun c122 => absurd c122 (by omega)) (fun c122 => ?_) 
                    refine r_aload_n (Y := YX9_renewed) dX9_renewed_125 rfl ?_
                    refine r_getR (Y := YX9_renewed) (δz := 23) fl_X9_76 dX9_renewed_126 rfl rfl ?_
                    refine r_iload (Y := YX9_renewed) dX9_renewed_129 rfl ?_
                    refine r_aload_n (Y := YX9_renewed) dX9_renewed_131 rfl ?_
                    refine r_getR (Y := YX9_renewed) (δz := 22) fl_X9_73 dX9_renewed_132 rfl rfl ?_
                    refine r_iload (Y := YX9_renewed) dX9_renewed_135 rfl ?_
                    refine r_iaV (Y := YX9_renewed) (v := σ86 (m + 22) j) dX9_renewed_137 ((g3 _ _ (by omega))) ?_
                    refine r_iastore (Y := YX9_renewed) dX9_renewed_138 ?_
                    refine r_iinc (Y := YX9_renewed) dX9_renewed_139 rfl ?_
                    refine r_goto (Y := YX9_renewed) (tgt := 119) dX9_renewed_142 (by decide) ?_
                    refine R2.weak (by repeat first | exact trivial | refine And.intro rfl ?_) (ih (j + 1) _ (by omega) (fun x a b => ?_) (fun k i h => by rw [up_ne (by omega)]; exact g3 k i h))
                    by_cases e : x = j
                    · rw [e]; exact up_same _ _ _ _
                    · rw [up_ne (by omega)]; exact g2 x a (by omega)
                · refine r_aload_n (Y := YX9_renewed) dX9_renewed_101 rfl ?_
                  refine r_getV (Y := YX9_renewed) (v := q.1) (jz := 31) fl_X9_215 dX9_renewed_102 (hz2) ?_
                  refine r_iload (Y := YX9_renewed) dX9_renewed_105 rfl ?_
                  refine r_icmp_ge (Y := YX9_renewed) (tgt := 145) dX9_renewed_107 (by decide) (fun c107 => absurd c107 (by omega)) (fun c107 => ?_) 
                  refine r_aload_n (Y := YX9_renewed) dX9_renewed_110 rfl ?_
                  refine r_getV (Y := YX9_renewed) (v := q.1) (jz := 31) fl_X9_215 dX9_renewed_111 (hz2) ?_
                  refine r_istore (Y := YX9_renewed) dX9_renewed_114 ?_
                  refine r_iconst (Y := YX9_renewed) dX9_renewed_116 ?_
                  refine r_istore (Y := YX9_renewed) dX9_renewed_117 ?_
                  suffices hcp : ∀ (f j : Nat) (υ : ab_S), j + f = wn → (∀ x : Int, 0 ≤ x → x < j → υ (m + 23) x = σ86 (m + 22) x) → (∀ k i : Int, k ≠ m + 23 → υ k i = σ86 k i) → R2 YX9_renewed 4 υ 119 [some (rf m), some (iv wn), some (iv n), some (iv i), some (iv ((25 ^ wn : Nat) : Int)), some (iv q.1), some (iv num), some (iv (-6)), some (iv j), none] [] (PI fun σ' z => z = (renewF G (wn : Int) n i).1 ∧ HM σ' m (renewF G (wn : Int) n i).2 ∧ FY σ33 σ' m) from
                    R2.weak (by repeat first | exact trivial | refine And.intro rfl ?_) (hcp wn 0 σ86 (by omega) (fun x a b => by omega) (fun _ _ _ => rfl))
                  intro f
                  induction f with
                  | zero =>
                    intro j υ g1 g2 g3
                    have g4 : j = wn := by omega
                    subst g4
                    have hk := hk υ (fun x c hc => by rw [g2 x (by omega) (by have := (List.getElem?_eq_some_iff.mp hc).1; omega)]; exact hz3 x c hc) (fun k i a b c d => by rw [g3 k i c]; exact (hF.tb fb86) k i a b c d)
                    refine r_iload (Y := YX9_renewed) dX9_renewed_119 rfl ?_
                    refine r_iload_n (Y := YX9_renewed) dX9_renewed_121 rfl ?_
                    refine r_icmp_ge (Y := YX9_renewed) (tgt := 145) dX9_renewed_122 (by decide) (fun c122 => ?_) (fun c122 => absurd c122 (by omega)) 
                    refine r_iconst (Y := YX9_renewed) dX9_renewed_145 ?_
                    refine r_istore (Y := YX9_renewed) dX9_renewed_146 ?_
                    refine r_iload (Y := YX9_renewed) dX9_renewed_148 rfl ?_
                    refine r_if_ge (Y := YX9_renewed) (tgt := 157) dX9_renewed_150 (by decide) (fun c150 => absurd c150 (by omega)) (fun c150 => ?_) 
                    refine r_iload_n (Y := YX9_renewed) dX9_renewed_153 rfl ?_
                    refine r_goto (Y := YX9_renewed) (tgt := 161) dX9_renewed_154 (by decide) ?_
                    refine r_istore (Y := YX9_renewed) dX9_renewed_161 ?_
                    refine r_iload (Y := YX9_renewed) dX9_renewed_163 rfl ?_
                    refine r_iload_n (Y := YX9_renewed) dX9_renewed_165 rfl ?_
                    refine r_icmp_ge (Y := YX9_renewed) (tgt := 182) dX9_renewed_166 (by decide) (fun c166 => ?_) (fun c166 => absurd c166 (by omega)) 
                    refine r_iload (Y := YX9_renewed) dX9_renewed_182 rfl ?_
                    refine r_iload (Y := YX9_renewed) dX9_renewed_184 rfl ?_
                    refine r_iadd (Y := YX9_renewed) dX9_renewed_186 ?_
                    refine r_istore (Y := YX9_renewed) dX9_renewed_187 ?_
                    refine r_goto (Y := YX9_renewed) (tgt := 74) dX9_renewed_189 (by decide) ?_
                    exact R2.weak (by repeat first | exact trivial | refine And.intro rfl ?_) hk
                  | succ f ih =>
                    intro j υ g1 g2 g3
                    refine r_iload (Y := YX9_renewed) dX9_renewed_119 rfl ?_
                    refine r_iload_n (Y := YX9_renewed) dX9_renewed_121 rfl ?_
                    refine r_icmp_ge (Y := YX9_renewed) (tgt := 145) dX9_renewed_122 (by decide) (fun c122 => absurd c122 (by omega)) (fun c122 => ?_) 
                    refine r_aload_n (Y := YX9_renewed) dX9_renewed_125 rfl ?_
                    refine r_getR (Y := YX9_renewed) (δz := 23) fl_X9_76 dX9_renewed_126 rfl rfl ?_
                    refine r_iload (Y := YX9_renewed) dX9_renewed_129 rfl ?_
                    refine r_aload_n (Y := YX9_renewed) dX9_renewed_131 rfl ?_
                    refine r_getR (Y := YX9_renewed) (δz := 22) fl_X9_73 dX9_renewed_132 rfl rfl ?_
                    refine r_iload (Y := YX9_renewed) dX9_renewed_135 rfl ?_
                    refine r_iaV (Y := YX9_renewed) (v := σ86 (m + 22) j) dX9_renewed_137 ((g3 _ _ (by omega))) ?_
                    refine r_iastore (Y := YX9_renewed) dX9_renewed_138 ?_
                    refine r_iinc (Y := YX9_renewed) dX9_renewed_139 rfl ?_
                    refine r_goto (Y := YX9_renewed) (tgt := 119) dX9_renewed_142 (by decide) ?_
                    refine R2.weak (by repeat first | exact trivial | refine And.intro rfl ?_) (ih (j + 1) _ (by omega) (fun x a b => ?_) (fun k i h => by rw [up_ne (by omega)]; exact g3 k i h))
                    by_cases e : x = j
                    · rw [e]; exact up_same _ _ _ _
                    · rw [up_ne (by omega)]; exact g2 x a (by omega)
              · have em : mrg st [] 0 (some q) = st := by
                  show (if 0 + q.1 < st.1 then (0 + q.1, [] ++ q.2) else st) = st
                  rw [if_neg (by omega)]
                rw [em] at hk
                have hk := hk s1 s2
                refine r_iload (Y := YX9_renewed) dX9_renewed_74 rfl ?_
                refine r_iload (Y := YX9_renewed) dX9_renewed_76 rfl ?_
                refine r_icmp_ge (Y := YX9_renewed) (tgt := 192) dX9_renewed_78 (by decide) (fun c78 => absurd c78 (by omega)) (fun c78 => ?_) 
                refine r_aload_n (Y := YX9_renewed) dX9_renewed_81 rfl ?_
                refine r_iload (Y := YX9_renewed) dX9_renewed_82 rfl ?_
                refine r_iload_n (Y := YX9_renewed) dX9_renewed_84 rfl ?_
                refine r_iload_n (Y := YX9_renewed) dX9_renewed_85 rfl ?_
                refine r_iV3I (Y := YX9_renewed) mv_X9_222 dX9_renewed_86 (c_X9_badWeek hm hMt.1 hW (num := num) (w := wn) (need := n) (by omega) hn (by omega) (by omega)) (by assumption) (fun σ86 z86 h86 => ?_)
                obtain ⟨d86, fb86⟩ := h86
                have hz : z86 = -6 ∧ σ86 m 31 = q.1 ∧ ∀ (i : Nat) (c : Int), q.2[i]? = some c → σ86 (m + 22) i = c := by
                  rcases d86 with ⟨p2, q1, q2, q3⟩ | ⟨q9, q1, q2, q3, q4⟩
                  · rw [hr] at q1
                    cases q1
                  · rw [hr] at q1
                    have e := Sum.inr.inj q1
                    subst e
                    exact ⟨q2, q3, q4⟩
                obtain ⟨rfl, hz2, hz3⟩ := hz
                refine r_istore (Y := YX9_renewed) dX9_renewed_89 ?_
                refine r_iload (Y := YX9_renewed) dX9_renewed_91 rfl ?_
                refine r_if_ge (Y := YX9_renewed) (tgt := 145) dX9_renewed_93 (by decide) (fun c93 => absurd c93 (by omega)) (fun c93 => ?_) 
                refine r_iload (Y := YX9_renewed) dX9_renewed_96 rfl ?_
                refine r_if_lt (Y := YX9_renewed) (tgt := 110) dX9_renewed_98 (by decide) (fun c98 => absurd c98 (by omega)) (fun c98 => ?_) 
                refine r_aload_n (Y := YX9_renewed) dX9_renewed_101 rfl ?_
                refine r_getV (Y := YX9_renewed) (v := q.1) (jz := 31) fl_X9_215 dX9_renewed_102 (hz2) ?_
                refine r_iload (Y := YX9_renewed) dX9_renewed_105 rfl ?_
                refine r_icmp_ge (Y := YX9_renewed) (tgt := 145) dX9_renewed_107 (by decide) (fun c107 => ?_) (fun c107 => absurd c107 (by omega)) 
                refine r_iconst (Y := YX9_renewed) dX9_renewed_145 ?_
                refine r_istore (Y := YX9_renewed) dX9_renewed_146 ?_
                refine r_iload (Y := YX9_renewed) dX9_renewed_148 rfl ?_
                refine r_if_ge (Y := YX9_renewed) (tgt := 157) dX9_renewed_150 (by decide) (fun c150 => absurd c150 (by omega)) (fun c150 => ?_) 
                refine r_iload_n (Y := YX9_renewed) dX9_renewed_153 rfl ?_
                refine r_goto (Y := YX9_renewed) (tgt := 161) dX9_renewed_154 (by decide) ?_
                refine r_istore (Y := YX9_renewed) dX9_renewed_161 ?_
                refine r_iload (Y := YX9_renewed) dX9_renewed_163 rfl ?_
                refine r_iload_n (Y := YX9_renewed) dX9_renewed_165 rfl ?_
                refine r_icmp_ge (Y := YX9_renewed) (tgt := 182) dX9_renewed_166 (by decide) (fun c166 => ?_) (fun c166 => absurd c166 (by omega)) 
                refine r_iload (Y := YX9_renewed) dX9_renewed_182 rfl ?_
                refine r_iload (Y := YX9_renewed) dX9_renewed_184 rfl ?_
                refine r_iadd (Y := YX9_renewed) dX9_renewed_186 ?_
                refine r_istore (Y := YX9_renewed) dX9_renewed_187 ?_
                refine r_goto (Y := YX9_renewed) (tgt := 74) dX9_renewed_189 (by decide) ?_
                exact R2.weak (by repeat first | exact trivial | refine And.intro rfl ?_) (hk σ86 (fun j c hc => by rw [fb86 _ _ (by omega) (by omega) (by omega)]; exact e1 j c hc) (hF.tb fb86))
            · rw [Nat.zero_add, addR_0]
            · cases hren : ren n wn G.1.1 with
              | none =>
                intro s1 s2 τ e1 hF
                have hMt := hM.fc hF
                change R2 _ _ _ _ [_, _, _, _, _, some (iv (-6)), _, _, _, _] _ _
                refine r_iload (Y := YX9_renewed) dX9_renewed_74 rfl ?_
                refine r_iload (Y := YX9_renewed) dX9_renewed_76 rfl ?_
                refine r_icmp_ge (Y := YX9_renewed) (tgt := 192) dX9_renewed_78 (by decide) (fun c78 => ?_) (fun c78 => absurd c78 (by omega)) 
                refine r_iload (Y := YX9_renewed) dX9_renewed_192 rfl ?_
                refine r_if_lt (Y := YX9_renewed) (tgt := 202) dX9_renewed_194 (by decide) (fun c194 => ?_) (fun c194 => absurd c194 (by omega)) 
                refine r_iload (Y := YX9_renewed) dX9_renewed_202 rfl ?_
                refine r_ireturn (Y := YX9_renewed) dX9_renewed_204 ?_
                by_cases hi9 : i < 0
                · unfold renewF
                  (repeat (first | rw [if_pos (by omega)] | rw [if_neg (by omega)]))
                  refine ⟨?_, hMt, hF.fy⟩
                  show (-6 : Int) = renZ n (wn : Int).toNat G.1.1
                  rw [Int.toNat_natCast]
                  unfold renZ
                  rw [hren]
                · unfold renewF
                  (repeat (first | rw [if_pos (by omega)] | rw [if_neg (by omega)]))
                  refine ⟨?_, hMt, hF.fy⟩
                  show (-6 : Int) = renI n (wn : Int).toNat G.1.1 i.toNat
                  rw [Int.toNat_natCast]
                  unfold renI
                  rw [hren]
              | some q =>
                have hql := ren_lt hW hren
                have hqb := ren_bd hW hren
                have em : mrg (595, []) [] 0 (some q) = q := by
                  show (if 0 + q.1 < 595 then (0 + q.1, [] ++ q.2) else _) = q
                  rw [if_pos (by omega), Int.zero_add, List.nil_append]
                rw [em]
                intro s1 s2 τ e1 hF
                have hMt := hM.fc hF
                have hfq : fz q.1 = q.1 := if_neg (by omega)
                rw [hfq]
                refine r_iload (Y := YX9_renewed) dX9_renewed_74 rfl ?_
                refine r_iload (Y := YX9_renewed) dX9_renewed_76 rfl ?_
                refine r_icmp_ge (Y := YX9_renewed) (tgt := 192) dX9_renewed_78 (by decide) (fun c78 => ?_) (fun c78 => absurd c78 (by omega)) 
                refine r_iload (Y := YX9_renewed) dX9_renewed_192 rfl ?_
                refine r_if_lt (Y := YX9_renewed) (tgt := 202) dX9_renewed_194 (by decide) (fun c194 => absurd c194 (by omega)) (fun c194 => ?_) 
                refine r_iload_n (Y := YX9_renewed) dX9_renewed_197 rfl ?_
                refine r_iconst (Y := YX9_renewed) dX9_renewed_198 ?_
                refine r_icmp_ne (Y := YX9_renewed) (tgt := 205) dX9_renewed_199 (by decide) (fun c199 => ?_) (fun c199 => ?_) 
                · obtain ⟨c, hc, hcm⟩ := getI_some (L := q.2) (i := i.toNat) (by rw [hqb.2.2.1]; omega)
                  have hcb := hqb.2.2.2 c hcm
                  have hcv := e1 i.toNat c hc
                  rw [show ((i.toNat : Nat) : Int) = i by omega] at hcv
                  have hri : renI n wn G.1.1 i.toNat = cod c := by
                    unfold renI
                    rw [hren]
                    show cod (q.2.getD i.toNat 0) = cod c
                    rw [List.getD_eq_getElem?_getD, hc]
                    rfl
                  unfold cod at hri
                  refine r_aload_n (Y := YX9_renewed) dX9_renewed_205 rfl ?_
                  refine r_getR (Y := YX9_renewed) (δz := 23) fl_X9_76 dX9_renewed_206 rfl rfl ?_
                  refine r_iload_n (Y := YX9_renewed) dX9_renewed_209 rfl ?_
                  refine r_iaV (Y := YX9_renewed) (v := c) dX9_renewed_210 (hcv) ?_
                  refine r_istore (Y := YX9_renewed) dX9_renewed_211 ?_
                  refine r_iload (Y := YX9_renewed) dX9_renewed_213 rfl ?_
                  refine r_if_ne (Y := YX9_renewed) (tgt := 223) dX9_renewed_215 (by decide) (fun c215 => ?_) (fun c215 => ?_) 
                  · refine r_bipush (Y := YX9_renewed) dX9_renewed_223 ?_
                    refine r_iload (Y := YX9_renewed) dX9_renewed_225 rfl ?_
                    refine r_iconst (Y := YX9_renewed) dX9_renewed_227 ?_
                    refine r_isub (Y := YX9_renewed) dX9_renewed_228 ?_
                    refine r_iconst (Y := YX9_renewed) dX9_renewed_229 ?_
                    refine r_idiv (Y := YX9_renewed) dX9_renewed_230 ?_
                    refine r_imul (Y := YX9_renewed) dX9_renewed_231 ?_
                    refine r_iload (Y := YX9_renewed) dX9_renewed_232 rfl ?_
                    refine r_iconst (Y := YX9_renewed) dX9_renewed_234 ?_
                    refine r_isub (Y := YX9_renewed) dX9_renewed_235 ?_
                    refine r_iconst (Y := YX9_renewed) dX9_renewed_236 ?_
                    refine r_irem (Y := YX9_renewed) dX9_renewed_237 ?_
                    refine r_top (Y := YX9_renewed) (v := (c - 1) % 4) (Int.tmod_eq_emod_of_nonneg (by omega)) ?_
                    refine r_iadd (Y := YX9_renewed) dX9_renewed_238 ?_
                    refine r_ireturn (Y := YX9_renewed) dX9_renewed_239 ?_
                    unfold renewF
                    (repeat (first | rw [if_pos (by omega)] | rw [if_neg (by omega)]))
                    refine ⟨?_, hMt, hF.fy⟩
                    show _ = renI n (wn : Int).toNat G.1.1 i.toNat
                    rw [Int.toNat_natCast, hri]
                    first
                      | rw [if_pos (by omega)]
                      | rw [if_neg (by omega)]
                  · refine r_bipush (Y := YX9_renewed) dX9_renewed_218 ?_
                    refine r_goto (Y := YX9_renewed) (tgt := 239) dX9_renewed_220 (by decide) ?_
                    refine r_ireturn (Y := YX9_renewed) dX9_renewed_239 ?_
                    unfold renewF
                    (repeat (first | rw [if_pos (by omega)] | rw [if_neg (by omega)]))
                    refine ⟨?_, hMt, hF.fy⟩
                    show _ = renI n (wn : Int).toNat G.1.1 i.toNat
                    rw [Int.toNat_natCast, hri]
                    first
                      | rw [if_pos (by omega)]
                      | rw [if_neg (by omega)]
                · refine r_iload (Y := YX9_renewed) dX9_renewed_202 rfl ?_
                  refine r_ireturn (Y := YX9_renewed) dX9_renewed_204 ?_
                  unfold renewF
                  (repeat (first | rw [if_pos (by omega)] | rw [if_neg (by omega)]))
                  refine ⟨?_, hMt, hF.fy⟩
                  show q.1 = renZ n (wn : Int).toNat G.1.1
                  rw [Int.toNat_natCast]
                  unfold renZ
                  rw [hren]
          exact R2.weak (by repeat first | exact trivial | refine And.intro rfl ?_) (h0 (by show (0 : Int) ≤ 595; omega) (by show (595 : Int) ≤ 595; omega) σ33 (fun j c hc => by cases hc) (fun _ _ _ _ _ _ => rfl))
        | succ k ih =>
          intro j e1
          have ih := ih (j + 1) (by omega)
          rw [Nat.pow_succ, Int.natCast_mul] at ih
          refine r_iload (Y := YX9_renewed) dX9_renewed_48 rfl ?_
          refine r_iload_n (Y := YX9_renewed) dX9_renewed_50 rfl ?_
          refine r_icmp_ge (Y := YX9_renewed) (tgt := 67) dX9_renewed_51 (by decide) (fun c51 => absurd c51 (by omega)) (fun c51 => ?_) 
          refine r_iload (Y := YX9_renewed) dX9_renewed_54 rfl ?_
          refine r_bipush (Y := YX9_renewed) dX9_renewed_56 ?_
          refine r_imul (Y := YX9_renewed) dX9_renewed_58 ?_
          refine r_istore (Y := YX9_renewed) dX9_renewed_59 ?_
          refine r_iinc (Y := YX9_renewed) dX9_renewed_61 rfl ?_
          refine r_goto (Y := YX9_renewed) (tgt := 48) dX9_renewed_64 (by decide) ?_
          exact R2.weak (by repeat first | exact trivial | refine And.intro rfl ?_) ih
      · refine r_bipush (Y := YX9_renewed) dX9_renewed_39 ?_
        refine r_ireturn (Y := YX9_renewed) dX9_renewed_41 ?_
        first
          | (exfalso; omega)
          | (unfold renewF; (repeat (first | rw [if_pos (by omega)] | rw [if_neg (by omega)])); exact ⟨rfl, hM, fun _ _ _ => rfl⟩)
