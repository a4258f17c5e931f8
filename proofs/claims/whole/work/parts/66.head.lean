/-! the law: its loop, and its start -/
set_option maxRecDepth 20000 in
theorem law_head {L : Nat} (hL : L ≤ 2560) (kx : kd_ 1 8 8) (km : kd_ 260 9 37) : ∀ (f i : Nat) (σ : ab_S) (G : GS), L ≤ i + f → i ≤ 3000 → HX σ 1 G → HM σ 260 G → OKG G → SC σ L → R2 YL_law 16 σ 18 [some (rf 0), some (rf 1), some (rf 260), some (iv i)] [] QL := by
  intro f
  induction f with
  | zero =>
    intro i σ G e1 e2 hX hM hG hS
    have hS1 := hS.1
    unfold QL
    refine r_iload_n (Y := YL_law) dL_law_18 rfl ?_
    refine r_aload_n (Y := YL_law) dL_law_19 rfl ?_
    refine r_slen (Y := YL_law) dL_law_20 (by omega) ?_
    rw [hS1]
    refine r_iconst (Y := YL_law) dL_law_21 ?_
    refine r_isub (Y := YL_law) dL_law_22 ?_
    refine r_icmp_gt (Y := YL_law) (tgt := 847) dL_law_23 (by decide) (fun c23 => ?_) (fun c23 => absurd c23 (by omega)) 
    refine r_iconst (Y := YL_law) dL_law_847 ?_
    refine r_zreturn (Y := YL_law) dL_law_848 (by decide) ?_
    exact rfl
  | succ f ih =>
    intro i σ G e1 e2 hX hM hG hS
    have hS1 := hS.1
    by_cases hi : (L : Int) - 5 < i
    · unfold QL
      refine r_iload_n (Y := YL_law) dL_law_18 rfl ?_
      refine r_aload_n (Y := YL_law) dL_law_19 rfl ?_
      refine r_slen (Y := YL_law) dL_law_20 (by omega) ?_
      rw [hS1]
      refine r_iconst (Y := YL_law) dL_law_21 ?_
      refine r_isub (Y := YL_law) dL_law_22 ?_
      refine r_icmp_gt (Y := YL_law) (tgt := 847) dL_law_23 (by decide) (fun c23 => ?_) (fun c23 => absurd c23 (by omega)) 
      refine r_iconst (Y := YL_law) dL_law_847 ?_
      refine r_zreturn (Y := YL_law) dL_law_848 (by decide) ?_
      exact rfl
    · have hi4 : i + 4 < L := by omega
      have hnext : ∀ (τ : ab_S) (G2 : GS), HX τ 1 G2 → HM τ 260 G2 → OKG G2 → SC τ L → R2 YL_law 16 τ 841 [some (rf 0), some (rf 1), some (rf 260), some (iv i)] [] QL := by
        intro τ G2 h1 h2 h3 h4
        have ih9 := ih (i + 5) τ G2 (by omega) (by omega) h1 h2 h3 h4
        rw [show ((i + 5 : Nat) : Int) = (i : Int) + 5 by omega] at ih9
        refine r_iinc (Y := YL_law) dL_law_841 rfl ?_
        refine r_goto (Y := YL_law) (tgt := 18) dL_law_844 (by decide) ?_
        exact R2.weak (by repeat first | exact trivial | refine And.intro rfl ?_) ih9
      obtain ⟨v0, hv0⟩ : ∃ v, σ 0 (i : Int) = v := ⟨_, rfl⟩
      refine r_iload_n (Y := YL_law) dL_law_18 rfl ?_
      refine r_aload_n (Y := YL_law) dL_law_19 rfl ?_
      refine r_slen (Y := YL_law) dL_law_20 (by omega) ?_
      rw [hS1]
      refine r_iconst (Y := YL_law) dL_law_21 ?_
      refine r_isub (Y := YL_law) dL_law_22 ?_
      refine r_icmp_gt (Y := YL_law) (tgt := 847) dL_law_23 (by decide) (fun c23 => absurd c23 (by omega)) (fun c23 => ?_) 
      refine r_aload_n (Y := YL_law) dL_law_26 rfl ?_
      refine r_iload_n (Y := YL_law) dL_law_27 rfl ?_
      refine r_sV (Y := YL_law) (v := v0) dL_law_28 hv0 (by omega) (by omega) (by omega) ?_
      refine r_bipush (Y := YL_law) dL_law_29 ?_
      refine r_iand (Y := YL_law) dL_law_31 ?_
      obtain ⟨w, hw⟩ : ∃ w, ban v0 31 = w := ⟨_, rfl⟩
      rw [hw]
      have hwr : -2147483648 ≤ w ∧ w ≤ 2147483647 := by
        rw [← hw]
        unfold ban
        have h1 := Int32.le_toInt (Int32.ofInt v0 &&& Int32.ofInt 31)
        have h2 := Int32.toInt_lt (Int32.ofInt v0 &&& Int32.ofInt 31)
        exact ⟨h1, by omega⟩
      rcases (show w < 0 ∨ 25 < w ∨ w = 0 ∨ w = 1 ∨ w = 2 ∨ w = 3 ∨ w = 4 ∨ w = 5 ∨ w = 6 ∨ w = 7 ∨ w = 8 ∨ w = 9 ∨ w = 10 ∨ w = 11 ∨ w = 12 ∨ w = 13 ∨ w = 14 ∨ w = 15 ∨ w = 16 ∨ w = 17 ∨ w = 18 ∨ w = 19 ∨ w = 20 ∨ w = 21 ∨ w = 22 ∨ w = 23 ∨ w = 24 ∨ w = 25 by omega) with c | c | c | c | c | c | c | c | c | c | c | c | c | c | c | c | c | c | c | c | c | c | c | c | c | c | c | c
      · refine r_tableOut (Y := YL_law) (tgt := 841) dL_law_32 (Or.inl c) (by decide) ?_
        exact R2.weak (by repeat first | exact trivial | refine And.intro rfl ?_) (hnext σ G hX hM hG hS)
      · refine r_tableOut (Y := YL_law) (tgt := 841) dL_law_32 (Or.inr c) (by decide) ?_
        exact R2.weak (by repeat first | exact trivial | refine And.intro rfl ?_) (hnext σ G hX hM hG hS)
      · subst c
        refine r_tableIn (Y := YL_law) (off := 120) (tgt := 152) dL_law_32 (by decide) (by decide) (by decide) (by decide) ?_
        exact R2.weak (by repeat first | exact trivial | refine And.intro rfl ?_) (law_0 hX hM hG hS hi4 hL kx km hnext)
      · subst c
        refine r_tableIn (Y := YL_law) (off := 163) (tgt := 195) dL_law_32 (by decide) (by decide) (by decide) (by decide) ?_
        exact R2.weak (by repeat first | exact trivial | refine And.intro rfl ?_) (law_1 hX hM hG hS hi4 hL kx km hnext)
      · subst c
        refine r_tableIn (Y := YL_law) (off := 186) (tgt := 218) dL_law_32 (by decide) (by decide) (by decide) (by decide) ?_
        exact R2.weak (by repeat first | exact trivial | refine And.intro rfl ?_) (law_2 hX hM hG hS hi4 hL kx km hnext)
      · subst c
        refine r_tableIn (Y := YL_law) (off := 209) (tgt := 241) dL_law_32 (by decide) (by decide) (by decide) (by decide) ?_
        exact R2.weak (by repeat first | exact trivial | refine And.intro rfl ?_) (law_3 hX hM hG hS hi4 hL kx km hnext)
      · subst c
        refine r_tableIn (Y := YL_law) (off := 222) (tgt := 254) dL_law_32 (by decide) (by decide) (by decide) (by decide) ?_
        exact R2.weak (by repeat first | exact trivial | refine And.intro rfl ?_) (law_4 hX hM hG hS hi4 hL kx km hnext)
      · subst c
        refine r_tableIn (Y := YL_law) (off := 235) (tgt := 267) dL_law_32 (by decide) (by decide) (by decide) (by decide) ?_
        exact R2.weak (by repeat first | exact trivial | refine And.intro rfl ?_) (law_5 hX hM hG hS hi4 hL kx km hnext)
      · subst c
        refine r_tableIn (Y := YL_law) (off := 258) (tgt := 290) dL_law_32 (by decide) (by decide) (by decide) (by decide) ?_
        exact R2.weak (by repeat first | exact trivial | refine And.intro rfl ?_) (law_6 hX hM hG hS hi4 hL kx km hnext)
      · subst c
        refine r_tableIn (Y := YL_law) (off := 271) (tgt := 303) dL_law_32 (by decide) (by decide) (by decide) (by decide) ?_
        exact R2.weak (by repeat first | exact trivial | refine And.intro rfl ?_) (law_7 hX hM hG hS hi4 hL kx km hnext)
      · subst c
        refine r_tableIn (Y := YL_law) (off := 314) (tgt := 346) dL_law_32 (by decide) (by decide) (by decide) (by decide) ?_
        exact R2.weak (by repeat first | exact trivial | refine And.intro rfl ?_) (law_8 hX hM hG hS hi4 hL kx km hnext)
      · subst c
        refine r_tableIn (Y := YL_law) (off := 337) (tgt := 369) dL_law_32 (by decide) (by decide) (by decide) (by decide) ?_
        exact R2.weak (by repeat first | exact trivial | refine And.intro rfl ?_) (law_9 hX hM hG hS hi4 hL kx km hnext)
      · subst c
        refine r_tableIn (Y := YL_law) (off := 350) (tgt := 382) dL_law_32 (by decide) (by decide) (by decide) (by decide) ?_
        exact R2.weak (by repeat first | exact trivial | refine And.intro rfl ?_) (law_10 hX hM hG hS hi4 hL kx km hnext)
      · subst c
        refine r_tableIn (Y := YL_law) (off := 373) (tgt := 405) dL_law_32 (by decide) (by decide) (by decide) (by decide) ?_
        exact R2.weak (by repeat first | exact trivial | refine And.intro rfl ?_) (law_11 hX hM hG hS hi4 hL kx km hnext)
      · subst c
        refine r_tableIn (Y := YL_law) (off := 407) (tgt := 439) dL_law_32 (by decide) (by decide) (by decide) (by decide) ?_
        exact R2.weak (by repeat first | exact trivial | refine And.intro rfl ?_) (law_12 hX hM hG hS hi4 hL kx km hnext)
      · subst c
        refine r_tableIn (Y := YL_law) (off := 440) (tgt := 472) dL_law_32 (by decide) (by decide) (by decide) (by decide) ?_
        exact R2.weak (by repeat first | exact trivial | refine And.intro rfl ?_) (law_13 hX hM hG hS hi4 hL kx km hnext)
      · subst c
        refine r_tableIn (Y := YL_law) (off := 473) (tgt := 505) dL_law_32 (by decide) (by decide) (by decide) (by decide) ?_
        exact R2.weak (by repeat first | exact trivial | refine And.intro rfl ?_) (law_14 hX hM hG hS hi4 hL kx km hnext)
      · subst c
        refine r_tableIn (Y := YL_law) (off := 486) (tgt := 518) dL_law_32 (by decide) (by decide) (by decide) (by decide) ?_
        exact R2.weak (by repeat first | exact trivial | refine And.intro rfl ?_) (law_15 hX hM hG hS hi4 hL kx km hnext)
      · subst c
        refine r_tableIn (Y := YL_law) (off := 509) (tgt := 541) dL_law_32 (by decide) (by decide) (by decide) (by decide) ?_
        exact R2.weak (by repeat first | exact trivial | refine And.intro rfl ?_) (law_16 hX hM hG hS hi4 hL kx km hnext)
      · subst c
        refine r_tableIn (Y := YL_law) (off := 552) (tgt := 584) dL_law_32 (by decide) (by decide) (by decide) (by decide) ?_
        exact R2.weak (by repeat first | exact trivial | refine And.intro rfl ?_) (law_17 hX hM hG hS hi4 hL kx km hnext)
      · subst c
        refine r_tableIn (Y := YL_law) (off := 605) (tgt := 637) dL_law_32 (by decide) (by decide) (by decide) (by decide) ?_
        exact R2.weak (by repeat first | exact trivial | refine And.intro rfl ?_) (law_18 hX hM hG hS hi4 hL kx km hnext)
      · subst c
        refine r_tableIn (Y := YL_law) (off := 638) (tgt := 670) dL_law_32 (by decide) (by decide) (by decide) (by decide) ?_
        exact R2.weak (by repeat first | exact trivial | refine And.intro rfl ?_) (law_19 hX hM hG hS hi4 hL kx km hnext)
      · subst c
        refine r_tableIn (Y := YL_law) (off := 651) (tgt := 683) dL_law_32 (by decide) (by decide) (by decide) (by decide) ?_
        exact R2.weak (by repeat first | exact trivial | refine And.intro rfl ?_) (law_20 hX hM hG hS hi4 hL kx km hnext)
      · subst c
        refine r_tableIn (Y := YL_law) (off := 674) (tgt := 706) dL_law_32 (by decide) (by decide) (by decide) (by decide) ?_
        exact R2.weak (by repeat first | exact trivial | refine And.intro rfl ?_) (law_21 hX hM hG hS hi4 hL kx km hnext)
      · subst c
        refine r_tableIn (Y := YL_law) (off := 697) (tgt := 729) dL_law_32 (by decide) (by decide) (by decide) (by decide) ?_
        exact R2.weak (by repeat first | exact trivial | refine And.intro rfl ?_) (law_22 hX hM hG hS hi4 hL kx km hnext)
      · subst c
        refine r_tableIn (Y := YL_law) (off := 740) (tgt := 772) dL_law_32 (by decide) (by decide) (by decide) (by decide) ?_
        exact R2.weak (by repeat first | exact trivial | refine And.intro rfl ?_) (law_23 hX hM hG hS hi4 hL kx km hnext)
      · subst c
        refine r_tableIn (Y := YL_law) (off := 763) (tgt := 795) dL_law_32 (by decide) (by decide) (by decide) (by decide) ?_
        exact R2.weak (by repeat first | exact trivial | refine And.intro rfl ?_) (law_24 hX hM hG hS hi4 hL kx km hnext)
      · subst c
        refine r_tableIn (Y := YL_law) (off := 786) (tgt := 818) dL_law_32 (by decide) (by decide) (by decide) (by decide) ?_
        exact R2.weak (by repeat first | exact trivial | refine And.intro rfl ?_) (law_25 hX hM hG hS hi4 hL kx km hnext)
theorem n_astore {Y : ab_Y} {d k n : Nat} {M : ab_M} {pc : Nat} {ls : List (Option Value)} {st : List Value} {Q : ab_M → Option Value → Prop} {q : Fin 4} {x : Nat} {ls' : List (Option Value)} (hd : decode Y.2.1 pc = .ok (.astore_n q, 1)) (hn : (q : Nat) < Y.2.2.1) (hl : ab_set ls (q : Nat) (.ref x) = ls') (kk : ab_Run Y d k n M (pc + 1) ls' st Q) : ab_Run Y d k n M pc ls (.ref x :: st) Q := ab_astore_n hd hn (by rw [hl]; exact kk)
theorem SC_0 (L : Nat) (xs : Nat → Int32) : SC (s0 L xs) L := by
  refine ⟨if_pos rfl, fun j => ?_⟩
  have e : s0 L xs 0 j = (xs j.toNat).toInt := by
    unfold s0
    rw [if_neg (by omega), if_pos rfl]
  rw [e]
  have h1 := Int32.le_toInt (xs j.toNat)
  have h2 := Int32.toInt_lt (xs j.toNat)
  exact ⟨h1, by omega⟩
theorem len_hb : (cHB 1).length = 259 := by decide +kernel
set_option maxRecDepth 20000 in
theorem law_run {L : Nat} (hL : L ≤ 2560) (xs : Nat → Int32) : ab_Run YL_law 16 286 3442 [ab_scr (s0 L xs)] 0 [some (.ref 0), none, none, none] [] (fun M r => ∃ σ', M = ab_mk σ' ∧ QL σ' r) := by
  have ha : [ab_scr (s0 L xs)].length = 1 := rfl
  refine n_mem (M' := [ab_scr (s0 L xs)] ++ []) rfl ?_
  refine n_new (k := 285) (n := 3434) (ci := 8) (q := (RX8, TX8, 8)) (fs := [.null, .null, .null, .null, .null, .null, .null, .null]) (r := 1) (L' := [(8, [.null, .null, .null, .null, .null, .null, .null, .null])]) ha rfl wl_L_7 wi_X8 wn_X8 dL_law_0 df_X8 dn_X8 rfl rfl rfl ?_
  refine ab_dup dL_law_3 rfl ?_
  refine n_init (k := 27) (n := 980) (L0 := []) (r := 1) (L' := cHB 1) ha c_X8_init rfl rfl rfl mi_L_9 dL_law_4 (Nat.le_of_ble_eq_true rfl) (by decide) ?_
  refine n_astore (ls' := [some (.ref 0), some (.ref 1), none, none]) dL_law_7 (by decide) rfl ?_
  refine n_new (k := 26) (n := 943) (ci := 9) (q := (RX9, TX9, 37)) (fs := [.null, .null, .null, .null, .null, .null, .null, .null, .int 0, .int 0, .null, .null, .int 0, .null, .null, .int 0, .null, .null, .null, .null, .null, .null, .null, .int 0, .null, .int 0, .int 0, .int 0, .null, .null, .null, .int 0, .null, .null, .null, .int 0, .int 0]) (r := 260) (L' := cHB 1 ++ [(9, [.null, .null, .null, .null, .null, .null, .null, .null, .int 0, .int 0, .null, .null, .int 0, .null, .null, .int 0, .null, .null, .null, .null, .null, .null, .null, .int 0, .null, .int 0, .int 0, .int 0, .null, .null, .null, .int 0, .null, .null, .null, .int 0, .int 0])]) ha rfl wl_L_10 wi_X9 wn_X9 dL_law_8 df_X9 dn_X9 rfl (by rw [len_hb]) rfl ?_
  refine ab_dup dL_law_11 rfl ?_
  refine n_init (k := 0) (n := 0) (L0 := cHB 1) (r := 260) (L' := cHB 1 ++ cModel 260) ha c_X9_init rfl (by rw [len_hb]) rfl mi_L_12 dL_law_12 (Nat.le_of_ble_eq_true rfl) (by decide) ?_
  refine n_astore (ls' := [some (.ref 0), some (.ref 1), some (.ref 260), none]) dL_law_15 (by decide) rfl ?_
  refine ab_iconst dL_law_16 ?_
  refine n_istore (ls' := [some (.ref 0), some (.ref 1), some (.ref 260), some (.int (Int32.ofInt 0))]) dL_law_17 (by decide) rfl ?_
  refine n_mem (mem_s0 L xs) ?_
  exact law_head hL kd_1 kd_260 L 0 (s0 L xs) G0 (by omega) (by omega) (HX_0 L xs) (HM_0 L xs) OKG_0 (SC_0 L xs)
