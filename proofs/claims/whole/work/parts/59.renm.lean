/-! renewals by trying all ways: their mathematics -/
def addR (p : Nat) (inc : Int) (pre : List Int) (x : Nat ⊕ (Int × List Int)) : Nat ⊕ (Int × List Int) := match x with
  | .inl q => .inl (p + q)
  | .inr q => .inr (inc + q.1, pre ++ q.2)
theorem addR_add (p p' : Nat) (i i' : Int) (e e' : List Int) (x : Nat ⊕ (Int × List Int)) : addR p i e (addR p' i' e' x) = addR (p + p') (i + i') (e ++ e') x := by
  cases x with
  | inl q =>
    show Sum.inl (p + (p' + q)) = Sum.inl (p + p' + q)
    rw [Nat.add_assoc]
  | inr q =>
    show Sum.inr (i + (i' + q.1), e ++ (e' ++ q.2)) = Sum.inr (i + i' + q.1, e ++ e' ++ q.2)
    rw [Int.add_assoc, List.append_assoc]
noncomputable def rsO (f : AB → Nat → Nat ⊕ (Int × List Int)) (need : Int) (A : AB) (c r : Nat) : Nat ⊕ (Int × List Int) := by
  classical
  exact if oGo need A c then addR 1 (oC A c) [(c : Int)] (f (oA A c) r) else .inl 0
theorem rsO_go {f : AB → Nat → Nat ⊕ (Int × List Int)} {need : Int} {A : AB} {c r : Nat} (h : oGo need A c) : rsO f need A c r = addR 1 (oC A c) [(c : Int)] (f (oA A c) r) := by
  unfold rsO
  exact if_pos h
theorem rsO_no {f : AB → Nat → Nat ⊕ (Int × List Int)} {need : Int} {A : AB} {c r : Nat} (h : ¬ oGo need A c) : rsO f need A c r = .inl 0 := by
  unfold rsO
  exact if_neg h
/-- a way by its number: where it can't be, or its inches and itself -/
noncomputable def rs (need : Int) : Nat → AB → Nat → Nat ⊕ (Int × List Int)
  | 0 => fun _ _ => .inr (0, [])
  | k + 1 => fun A num => rsO (rs need k) need A (num / 25 ^ k) (num % 25 ^ k)
theorem rs_succ (need : Int) (k : Nat) (A : AB) (num : Nat) : rs need (k + 1) A num = rsO (rs need k) need A (num / 25 ^ k) (num % 25 ^ k) := rfl
theorem p25 : ∀ r : Nat, r < 5 → 1 ≤ 25 ^ r ∧ 25 ^ r ≤ 390625 := by decide +kernel
theorem p25p (r : Nat) : 0 < 25 ^ r := Nat.pow_pos (by omega)
theorem rs_at {need : Int} {k : Nat} {A : AB} {d r : Nat} (hr : r < 25 ^ k) : rs need (k + 1) A (d * 25 ^ k + r) = rsO (rs need k) need A d r := by
  have hp := p25p k
  rw [rs_succ, Nat.mul_comm d, Nat.mul_add_div hp, Nat.div_eq_of_lt hr, Nat.add_zero, Nat.mul_add_mod, Nat.mod_eq_of_lt hr]
theorem oC_sum {A : AB} {c : Nat} (h : WA A) (hc : c < 25) (hg : oOk A c) : 0 ≤ oC A c ∧ oC A c + sumN (aB (oA A c)) 6 ≤ sumN (aB A) 6 := by
  by_cases e : c = 0
  · subst e
    rw [oA_B0]
    exact ⟨Int.le_refl 0, by show (0 : Int) + _ ≤ _; omega⟩
  · have hBo := oA_B hg e
    have hb := h.2.2.1 (((c - 1) / 4 : Nat) : Int) (by omega) (by omega)
    have hoC : oC A c = aB A (((c - 1) / 4 : Nat) : Int) := if_neg e
    rw [hoC]
    refine ⟨hb.1, ?_⟩
    have hlt : (((c - 1) / 4 : Nat) : Int) < 6 := by omega
    have hge : (0 : Int) ≤ (((c - 1) / 4 : Nat) : Int) := by omega
    generalize (((c - 1) / 4 : Nat) : Int) = m at *
    show aB A m + (0 + aB (oA A c) 0 + aB (oA A c) 1 + aB (oA A c) 2 + aB (oA A c) 3 + aB (oA A c) 4 + aB (oA A c) 5) ≤ 0 + aB A 0 + aB A 1 + aB A 2 + aB A 3 + aB A 4 + aB A 5
    rw [hBo, hBo, hBo, hBo, hBo, hBo]
    have : m = 0 ∨ m = 1 ∨ m = 2 ∨ m = 3 ∨ m = 4 ∨ m = 5 := by omega
    rcases this with e | e | e | e | e | e <;> subst e <;> simp <;> omega
theorem rs_bd {need : Int} : ∀ {k : Nat} {A : AB} {num : Nat} {q : Int × List Int}, WA A → num < 25 ^ k → rs need k A num = .inr q → 0 ≤ q.1 ∧ q.1 ≤ sumN (aB A) 6 ∧ q.2.length = k ∧ ∀ z ∈ q.2, 0 ≤ z ∧ z < 25
  | 0, A, num, q, h, _, hq => by
    have e : (0, []) = q := Sum.inr.inj hq
    subst e
    exact ⟨Int.le_refl 0, sumN_nn 6 (fun i h1 h2 => (h.2.2.1 i h1 h2).1), rfl, fun z hz => by cases hz⟩
  | k + 1, A, num, q, h, hn, hq => by
    rw [rs_succ] at hq
    have hc : num / 25 ^ k < 25 := Nat.div_lt_of_lt_mul (by rw [← Nat.pow_succ]; exact hn)
    have hr := Nat.mod_lt num (p25p k)
    by_cases hg : oGo need A (num / 25 ^ k)
    · rw [rsO_go hg] at hq
      cases hf : rs need k (oA A (num / 25 ^ k)) (num % 25 ^ k) with
      | inl p => rw [hf] at hq; cases hq
      | inr p =>
        rw [hf] at hq
        have e : (oC A (num / 25 ^ k) + p.1, [((num / 25 ^ k : Nat) : Int)] ++ p.2) = q := Sum.inr.inj hq
        subst e
        have ih := rs_bd (WA_oA h hc) hr hf
        have hm := oC_sum h hc hg.1
        refine ⟨by show 0 ≤ oC A (num / 25 ^ k) + p.1; omega, by show oC A (num / 25 ^ k) + p.1 ≤ _; omega, by show p.2.length + 1 = k + 1; omega, fun z hz => ?_⟩
        rcases List.mem_cons.mp hz with hz | hz
        · rw [hz]
          generalize num / 25 ^ k = c0 at hc
          omega
        · exact ih.2.2.2 z hz
    · rw [rsO_no hg] at hq; cases hq
theorem rs_lt {need : Int} {k : Nat} {A : AB} {num : Nat} {q : Int × List Int} (h : WA A) (hn : num < 25 ^ k) (hq : rs need k A num = .inr q) : 0 ≤ q.1 ∧ q.1 < 595 := by
  have h1 := rs_bd h hn hq
  have h2 : sumN (aB A) 6 = 0 + aB A 0 + aB A 1 + aB A 2 + aB A 3 + aB A 4 + aB A 5 := rfl
  have a0 := h.2.2.1 0 (by omega) (by omega)
  have a1 := h.2.2.1 1 (by omega) (by omega)
  have a2 := h.2.2.1 2 (by omega) (by omega)
  have a3 := h.2.2.1 3 (by omega) (by omega)
  have a4 := h.2.2.1 4 (by omega) (by omega)
  have a5 := h.2.2.1 5 (by omega) (by omega)
  omega
theorem mrg_one (st : Int × List Int) (pre : List Int) (inc : Int) : mrg st [] 0 (some (inc + 0, pre ++ [])) = mrg st pre inc (some (0, [])) := by
  show (if 0 + (inc + 0) < st.1 then (0 + (inc + 0), [] ++ (pre ++ [])) else st) = if inc + 0 < st.1 then (inc + 0, pre ++ []) else st
  rw [Int.zero_add, List.nil_append]
theorem ren_blk {need : Int} {w : Nat} {A0 : AB} {K : Nat → Int × List Int → Prop} (hK1 : ∀ (num : Nat) (st : Int × List Int) (p : Nat), num < 25 ^ w → rs need w A0 num = .inl p → K (num + 25 ^ (w - p - 1)) st → K num st) (hK2 : ∀ (num : Nat) (st : Int × List Int) (q : Int × List Int), num < 25 ^ w → rs need w A0 num = .inr q → K (num + 1) (mrg st [] 0 (some q)) → K num st) : ∀ (k j a : Nat) (inc : Int) (pre : List Int) (B : AB) (st : Int × List Int), j + k = w → a + 25 ^ k ≤ 25 ^ w → (∀ r : Nat, r < 25 ^ k → rs need w A0 (a + r) = addR j inc pre (rs need k B r)) → K (a + 25 ^ k) (mrg st pre inc (ren need k B)) → K a st
  | 0, j, a, inc, pre, B, st, h1, h2, h3, h4 => by
    have h5 : rs need w A0 a = .inr (inc + 0, pre ++ []) := h3 0 (by omega)
    refine hK2 a st _ (by have := p25p 0; omega) h5 ?_
    rw [mrg_one]
    exact h4
  | k + 1, j, a, inc, pre, B, st, h1, h2, h3, h4 => by
    have hp := p25p k
    have h25 : 25 ^ (k + 1) = 25 * 25 ^ k := by rw [Nat.pow_succ, Nat.mul_comm]
    have hsub : ∀ d : Nat, d ≤ 25 → K (a + d * 25 ^ k) (mrg st pre inc (renN (ren need k) need B d)) → K a st := by
      intro d
      induction d with
      | zero =>
        intro _ h
        rw [Nat.zero_mul] at h
        exact h
      | succ d ih =>
        intro hd h
        have hle : d * 25 ^ k + 25 ^ k ≤ 25 * 25 ^ k := by
          have := Nat.mul_le_mul_right (25 ^ k) (show d + 1 ≤ 25 by omega)
          rw [Nat.succ_mul] at this
          exact this
        have e1 : renN (ren need k) need B (d + 1) = bet (renN (ren need k) need B d) (renO (ren need k) need B d) := rfl
        rw [e1, ← mrg_bet, Nat.succ_mul] at h
        refine ih (by omega) ?_
        by_cases hg : oGo need B d
        · rw [renO_go hg, ← mrg_map] at h
          refine ren_blk hK1 hK2 k (j + 1) (a + d * 25 ^ k) (inc + oC B d) (pre ++ [(d : Int)]) (oA B d) _ (by omega) (by omega) (fun r hr => ?_) (by rw [Nat.add_assoc]; exact h)
          rw [Nat.add_assoc, h3 _ (by omega), rs_at hr, rsO_go hg, addR_add]
        · rw [renO_no hg] at h
          have h6 : rs need w A0 (a + d * 25 ^ k) = .inl j := by
            have h7 := h3 (d * 25 ^ k + 0) (by omega)
            rw [rs_at hp, rsO_no hg, Nat.add_zero] at h7
            exact h7
          refine hK1 _ _ j (by omega) h6 ?_
          rw [show w - j - 1 = k by omega, Nat.add_assoc]
          exact h
    refine hsub 25 (Nat.le_refl 25) ?_
    rw [← h25]
    exact h4
