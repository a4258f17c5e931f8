/-! the law: its calls one by one -/
abbrev YL_law : ab_Y := (x, cL_law, 4, ret)
theorem r_eqj {Y : ab_Y} {d : Nat} {σ : ab_S} {pc : Nat} {ls : List (Option Value)} {st : List Value} {Q : ab_S → Option Value → Prop} {x off : Int} {tgt : Nat} (hd : decode Y.2.1 pc = .ok (.if_icmp .eq off, 3)) (ht : (pc : Int) + off = (tgt : Int)) (kk : R2 Y d σ tgt ls st Q) : R2 Y d σ pc ls (iv x :: iv x :: st) Q := ab_icmp_eq hd ht (fun _ => kk) (fun h => absurd rfl h)
theorem r_sV {Y : ab_Y} {d : Nat} {σ : ab_S} {pc : Nat} {ls : List (Option Value)} {st : List Value} {Q : ab_S → Option Value → Prop} {x v : Int} (hd : decode Y.2.1 pc = .ok (.iaload, 1)) (hv : σ 0 x = v) (h1 : 0 ≤ x) (h2 : x < σ (-1) 0) (h3 : σ (-1) 0 < 2147483648) (kk : R2 Y d σ (pc + 1) ls (iv v :: st) Q) : R2 Y d σ pc ls (iv x :: rf 0 :: st) Q := r_sload hd (by rw [hv]; exact kk) h1 h2 h3
theorem r_eql {Y : ab_Y} {d : Nat} {σ : ab_S} {pc : Nat} {ls : List (Option Value)} {st : List Value} {Q : ab_S → Option Value → Prop} {x : Int} (hd : decode Y.2.1 pc = .ok (.lcmp, 1)) (kk : R2 Y d σ (pc + 1) ls (iv 0 :: st) Q) : R2 Y d σ pc ls (lgv x :: lgv x :: st) Q := by
  refine ab_lcmp hd ?_
  have e : ∀ a : Int64, lg_cmp a a = Int32.ofInt 0 := fun a => by
    unfold lg_cmp
    rw [if_neg (Int64.lt_irrefl)]
    first
      | rfl
      | (rw [if_neg (Int64.lt_irrefl)]; rfl)
      | (rw [if_pos rfl]; rfl)
  rw [e]
  exact kk
def SC (σ : ab_S) (L : Nat) : Prop := σ (-1) 0 = (L : Int) ∧ ∀ j : Int, -2147483648 ≤ σ 0 j ∧ σ 0 j ≤ 2147483647
def QL : ab_S → Option Value → Prop := PI fun _ z => z = 1
theorem SC.fx {σ τ : ab_S} {L : Nat} (h : SC σ L) (hf : FX σ τ 1) : SC τ L := ⟨by rw [hf _ _ (by omega)]; exact h.1, fun j => by rw [hf _ _ (by omega)]; exact h.2 j⟩
theorem SC.fy {σ τ : ab_S} {L : Nat} (h : SC σ L) (hf : FY σ τ 260) : SC τ L := ⟨by rw [hf _ _ (by omega)]; exact h.1, fun j => by rw [hf _ _ (by omega)]; exact h.2 j⟩
theorem HM.fx {σ τ : ab_S} {G : GS} (h : HM σ 260 G) (hf : FX σ τ 1) : HM τ 260 G := h.kept (fun k i b => hf k i (by omega))
theorem HX.fy {σ τ : ab_S} {G : GS} (h : HX σ 1 G) (hf : FY σ τ 260) : HX τ 1 G := h.kept (fun k i b => hf k i (by omega))
set_option maxRecDepth 20000 in
theorem law_0 {σ : ab_S} {G : GS} {i L : Nat} (hX : HX σ 1 G) (hM : HM σ 260 G) (hG : OKG G) (hS : SC σ L) (hi : i + 4 < L) (hL : L ≤ 2560) (kx : kd_ 1 8 8) (km : kd_ 260 9 37) (hnext : ∀ (τ : ab_S) (G2 : GS), HX τ 1 G2 → HM τ 260 G2 → OKG G2 → SC τ L → R2 YL_law 16 τ 841 [some (rf 0), some (rf 1), some (rf 260), some (iv i)] [] QL) : R2 YL_law 16 σ 152 [some (rf 0), some (rf 1), some (rf 260), some (iv i)] [] QL := by
  obtain ⟨v1, hv1⟩ : ∃ v, σ 0 ((i : Int) + 1) = v := ⟨_, rfl⟩
  have hr1 := hS.2 ((i : Int) + 1)
  rw [hv1] at hr1
  obtain ⟨v2, hv2⟩ : ∃ v, σ 0 ((i : Int) + 2) = v := ⟨_, rfl⟩
  have hr2 := hS.2 ((i : Int) + 2)
  rw [hv2] at hr2
  obtain ⟨v3, hv3⟩ : ∃ v, σ 0 ((i : Int) + 3) = v := ⟨_, rfl⟩
  have hr3 := hS.2 ((i : Int) + 3)
  rw [hv3] at hr3
  have hS1 := hS.1
  refine r_aload_n (Y := YL_law) dL_law_152 rfl ?_
  refine r_aload_n (Y := YL_law) dL_law_153 rfl ?_
  refine r_iload_n (Y := YL_law) dL_law_154 rfl ?_
  refine r_iconst (Y := YL_law) dL_law_155 ?_
  refine r_iadd (Y := YL_law) dL_law_156 ?_
  refine r_sV (Y := YL_law) (v := v1) dL_law_157 hv1 (by omega) (by omega) (by omega) ?_
  refine r_aload_n (Y := YL_law) dL_law_158 rfl ?_
  refine r_iload_n (Y := YL_law) dL_law_159 rfl ?_
  refine r_iconst (Y := YL_law) dL_law_160 ?_
  refine r_iadd (Y := YL_law) dL_law_161 ?_
  refine r_sV (Y := YL_law) (v := v2) dL_law_162 hv2 (by omega) (by omega) (by omega) ?_
  refine r_aload_n (Y := YL_law) dL_law_163 rfl ?_
  refine r_iload_n (Y := YL_law) dL_law_164 rfl ?_
  refine r_iconst (Y := YL_law) dL_law_165 ?_
  refine r_iadd (Y := YL_law) dL_law_166 ?_
  refine r_sV (Y := YL_law) (v := v3) dL_law_167 hv3 (by omega) (by omega) (by omega) ?_
  refine r_iV3I (Y := YL_law) mv_L_13 dL_law_168 (c_X8_monk kx hX hG hr1.1 hr1.2 hr2.1 hr2.2 hr3.1 hr3.2) (by assumption) (fun σ168 z168 h168 => ?_)
  obtain ⟨rfl, x1, f1⟩ := h168
  have hM1 := hM.fx f1
  have hSf := hS.fx f1
  have hS1f := hSf.1
  refine r_aload_n (Y := YL_law) dL_law_171 rfl ?_
  refine r_aload_n (Y := YL_law) dL_law_172 rfl ?_
  refine r_iload_n (Y := YL_law) dL_law_173 rfl ?_
  refine r_iconst (Y := YL_law) dL_law_174 ?_
  refine r_iadd (Y := YL_law) dL_law_175 ?_
  refine r_sV (Y := YL_law) (v := v1) dL_law_176 (by rw [f1 _ _ (by omega)]; exact hv1) (by omega) (by omega) (by omega) ?_
  refine r_aload_n (Y := YL_law) dL_law_177 rfl ?_
  refine r_iload_n (Y := YL_law) dL_law_178 rfl ?_
  refine r_iconst (Y := YL_law) dL_law_179 ?_
  refine r_iadd (Y := YL_law) dL_law_180 ?_
  refine r_sV (Y := YL_law) (v := v2) dL_law_181 (by rw [f1 _ _ (by omega)]; exact hv2) (by omega) (by omega) (by omega) ?_
  refine r_aload_n (Y := YL_law) dL_law_182 rfl ?_
  refine r_iload_n (Y := YL_law) dL_law_183 rfl ?_
  refine r_iconst (Y := YL_law) dL_law_184 ?_
  refine r_iadd (Y := YL_law) dL_law_185 ?_
  refine r_sV (Y := YL_law) (v := v3) dL_law_186 (by rw [f1 _ _ (by omega)]; exact hv3) (by omega) (by omega) (by omega) ?_
  refine r_iV3I (Y := YL_law) mv_L_17 dL_law_187 (c_X9_monk km hM1 hG hr1.1 hr1.2 hr2.1 hr2.2 hr3.1 hr3.2) (by assumption) (fun σ187 z187 h187 => ?_)
  obtain ⟨rfl, m1, f2⟩ := h187
  have hX1 := x1.fy f2
  have hSg := hSf.fy f2
  refine r_eqj (Y := YL_law) (tgt := 841) dL_law_190 (by decide) ?_
  exact R2.weak (by repeat first | exact trivial | refine And.intro rfl ?_) (hnext _ _ hX1 m1 (OKG_monk hG) hSg)
set_option maxRecDepth 20000 in
theorem law_1 {σ : ab_S} {G : GS} {i L : Nat} (hX : HX σ 1 G) (hM : HM σ 260 G) (hG : OKG G) (hS : SC σ L) (hi : i + 4 < L) (hL : L ≤ 2560) (kx : kd_ 1 8 8) (km : kd_ 260 9 37) (hnext : ∀ (τ : ab_S) (G2 : GS), HX τ 1 G2 → HM τ 260 G2 → OKG G2 → SC τ L → R2 YL_law 16 τ 841 [some (rf 0), some (rf 1), some (rf 260), some (iv i)] [] QL) : R2 YL_law 16 σ 195 [some (rf 0), some (rf 1), some (rf 260), some (iv i)] [] QL := by
  obtain ⟨v1, hv1⟩ : ∃ v, σ 0 ((i : Int) + 1) = v := ⟨_, rfl⟩
  have hr1 := hS.2 ((i : Int) + 1)
  rw [hv1] at hr1
  have hS1 := hS.1
  refine r_aload_n (Y := YL_law) dL_law_195 rfl ?_
  refine r_aload_n (Y := YL_law) dL_law_196 rfl ?_
  refine r_iload_n (Y := YL_law) dL_law_197 rfl ?_
  refine r_iconst (Y := YL_law) dL_law_198 ?_
  refine r_iadd (Y := YL_law) dL_law_199 ?_
  refine r_sV (Y := YL_law) (v := v1) dL_law_200 hv1 (by omega) (by omega) (by omega) ?_
  refine r_iV1I (Y := YL_law) mv_L_18 dL_law_201 (c_X8_wear kx hX hG hr1.1 hr1.2) (by assumption) (fun σ201 z201 h201 => ?_)
  obtain ⟨rfl, x1, f1⟩ := h201
  have hM1 := hM.fx f1
  have hSf := hS.fx f1
  have hS1f := hSf.1
  refine r_aload_n (Y := YL_law) dL_law_204 rfl ?_
  refine r_aload_n (Y := YL_law) dL_law_205 rfl ?_
  refine r_iload_n (Y := YL_law) dL_law_206 rfl ?_
  refine r_iconst (Y := YL_law) dL_law_207 ?_
  refine r_iadd (Y := YL_law) dL_law_208 ?_
  refine r_sV (Y := YL_law) (v := v1) dL_law_209 (by rw [f1 _ _ (by omega)]; exact hv1) (by omega) (by omega) (by omega) ?_
  refine r_iV1I (Y := YL_law) mv_L_22 dL_law_210 (c_X9_wear km hM1 hG hr1.1 hr1.2) (by assumption) (fun σ210 z210 h210 => ?_)
  obtain ⟨rfl, m1, f2⟩ := h210
  have hX1 := x1.fy f2
  have hSg := hSf.fy f2
  refine r_eqj (Y := YL_law) (tgt := 841) dL_law_213 (by decide) ?_
  exact R2.weak (by repeat first | exact trivial | refine And.intro rfl ?_) (hnext _ _ hX1 m1 (OKG_wear hG) hSg)
set_option maxRecDepth 20000 in
theorem law_2 {σ : ab_S} {G : GS} {i L : Nat} (hX : HX σ 1 G) (hM : HM σ 260 G) (hG : OKG G) (hS : SC σ L) (hi : i + 4 < L) (hL : L ≤ 2560) (kx : kd_ 1 8 8) (km : kd_ 260 9 37) (hnext : ∀ (τ : ab_S) (G2 : GS), HX τ 1 G2 → HM τ 260 G2 → OKG G2 → SC τ L → R2 YL_law 16 τ 841 [some (rf 0), some (rf 1), some (rf 260), some (iv i)] [] QL) : R2 YL_law 16 σ 218 [some (rf 0), some (rf 1), some (rf 260), some (iv i)] [] QL := by
  obtain ⟨v1, hv1⟩ : ∃ v, σ 0 ((i : Int) + 1) = v := ⟨_, rfl⟩
  have hr1 := hS.2 ((i : Int) + 1)
  rw [hv1] at hr1
  have hS1 := hS.1
  refine r_aload_n (Y := YL_law) dL_law_218 rfl ?_
  refine r_aload_n (Y := YL_law) dL_law_219 rfl ?_
  refine r_iload_n (Y := YL_law) dL_law_220 rfl ?_
  refine r_iconst (Y := YL_law) dL_law_221 ?_
  refine r_iadd (Y := YL_law) dL_law_222 ?_
  refine r_sV (Y := YL_law) (v := v1) dL_law_223 hv1 (by omega) (by omega) (by omega) ?_
  refine r_iV1I (Y := YL_law) mv_L_23 dL_law_224 (c_X8_say kx hX hG hr1.1 hr1.2) (by assumption) (fun σ224 z224 h224 => ?_)
  obtain ⟨rfl, x1, f1⟩ := h224
  have hM1 := hM.fx f1
  have hSf := hS.fx f1
  have hS1f := hSf.1
  refine r_aload_n (Y := YL_law) dL_law_227 rfl ?_
  refine r_aload_n (Y := YL_law) dL_law_228 rfl ?_
  refine r_iload_n (Y := YL_law) dL_law_229 rfl ?_
  refine r_iconst (Y := YL_law) dL_law_230 ?_
  refine r_iadd (Y := YL_law) dL_law_231 ?_
  refine r_sV (Y := YL_law) (v := v1) dL_law_232 (by rw [f1 _ _ (by omega)]; exact hv1) (by omega) (by omega) (by omega) ?_
  refine r_iV1I (Y := YL_law) mv_L_26 dL_law_233 (c_X9_say km hM1 hG hr1.1 hr1.2) (by assumption) (fun σ233 z233 h233 => ?_)
  obtain ⟨rfl, m1, f2⟩ := h233
  have hX1 := x1.fy f2
  have hSg := hSf.fy f2
  refine r_eqj (Y := YL_law) (tgt := 841) dL_law_236 (by decide) ?_
  exact R2.weak (by repeat first | exact trivial | refine And.intro rfl ?_) (hnext _ _ hX1 m1 (OKG_say hG) hSg)
set_option maxRecDepth 20000 in
theorem law_3 {σ : ab_S} {G : GS} {i L : Nat} (hX : HX σ 1 G) (hM : HM σ 260 G) (hG : OKG G) (hS : SC σ L) (hi : i + 4 < L) (hL : L ≤ 2560) (kx : kd_ 1 8 8) (km : kd_ 260 9 37) (hnext : ∀ (τ : ab_S) (G2 : GS), HX τ 1 G2 → HM τ 260 G2 → OKG G2 → SC τ L → R2 YL_law 16 τ 841 [some (rf 0), some (rf 1), some (rf 260), some (iv i)] [] QL) : R2 YL_law 16 σ 241 [some (rf 0), some (rf 1), some (rf 260), some (iv i)] [] QL := by
  have hS1 := hS.1
  refine r_aload_n (Y := YL_law) dL_law_241 rfl ?_
  refine r_iV0I (Y := YL_law) mv_L_27 dL_law_242 (c_X8_wipe kx hX hG ) (by assumption) (fun σ242 z242 h242 => ?_)
  obtain ⟨rfl, x1, f1⟩ := h242
  have hM1 := hM.fx f1
  have hSf := hS.fx f1
  have hS1f := hSf.1
  refine r_aload_n (Y := YL_law) dL_law_245 rfl ?_
  refine r_iV0I (Y := YL_law) mv_L_31 dL_law_246 (c_X9_wipe km hM1 hG ) (by assumption) (fun σ246 z246 h246 => ?_)
  obtain ⟨rfl, m1, f2⟩ := h246
  have hX1 := x1.fy f2
  have hSg := hSf.fy f2
  refine r_eqj (Y := YL_law) (tgt := 841) dL_law_249 (by decide) ?_
  exact R2.weak (by repeat first | exact trivial | refine And.intro rfl ?_) (hnext _ _ hX1 m1 (OKG_wipe hG) hSg)
set_option maxRecDepth 20000 in
theorem law_4 {σ : ab_S} {G : GS} {i L : Nat} (hX : HX σ 1 G) (hM : HM σ 260 G) (hG : OKG G) (hS : SC σ L) (hi : i + 4 < L) (hL : L ≤ 2560) (kx : kd_ 1 8 8) (km : kd_ 260 9 37) (hnext : ∀ (τ : ab_S) (G2 : GS), HX τ 1 G2 → HM τ 260 G2 → OKG G2 → SC τ L → R2 YL_law 16 τ 841 [some (rf 0), some (rf 1), some (rf 260), some (iv i)] [] QL) : R2 YL_law 16 σ 254 [some (rf 0), some (rf 1), some (rf 260), some (iv i)] [] QL := by
  have hS1 := hS.1
  refine r_aload_n (Y := YL_law) dL_law_254 rfl ?_
  refine r_iV0I (Y := YL_law) mv_L_32 dL_law_255 (c_X8_fault kx hX hG ) (by assumption) (fun σ255 z255 h255 => ?_)
  obtain ⟨rfl, x1, f1⟩ := h255
  have hM1 := hM.fx f1
  have hSf := hS.fx f1
  have hS1f := hSf.1
  refine r_aload_n (Y := YL_law) dL_law_258 rfl ?_
  refine r_iV0I (Y := YL_law) mv_L_35 dL_law_259 (c_X9_faultF km hM1 hG ) (by assumption) (fun σ259 z259 h259 => ?_)
  obtain ⟨rfl, m1, f2⟩ := h259
  have hX1 := x1.fy f2
  have hSg := hSf.fy f2
  refine r_eqj (Y := YL_law) (tgt := 841) dL_law_262 (by decide) ?_
  exact R2.weak (by repeat first | exact trivial | refine And.intro rfl ?_) (hnext _ _ hX1 m1 (hG) hSg)
set_option maxRecDepth 20000 in
theorem law_5 {σ : ab_S} {G : GS} {i L : Nat} (hX : HX σ 1 G) (hM : HM σ 260 G) (hG : OKG G) (hS : SC σ L) (hi : i + 4 < L) (hL : L ≤ 2560) (kx : kd_ 1 8 8) (km : kd_ 260 9 37) (hnext : ∀ (τ : ab_S) (G2 : GS), HX τ 1 G2 → HM τ 260 G2 → OKG G2 → SC τ L → R2 YL_law 16 τ 841 [some (rf 0), some (rf 1), some (rf 260), some (iv i)] [] QL) : R2 YL_law 16 σ 267 [some (rf 0), some (rf 1), some (rf 260), some (iv i)] [] QL := by
  obtain ⟨v1, hv1⟩ : ∃ v, σ 0 ((i : Int) + 1) = v := ⟨_, rfl⟩
  have hr1 := hS.2 ((i : Int) + 1)
  rw [hv1] at hr1
  have hS1 := hS.1
  refine r_aload_n (Y := YL_law) dL_law_267 rfl ?_
  refine r_aload_n (Y := YL_law) dL_law_268 rfl ?_
  refine r_iload_n (Y := YL_law) dL_law_269 rfl ?_
  refine r_iconst (Y := YL_law) dL_law_270 ?_
  refine r_iadd (Y := YL_law) dL_law_271 ?_
  refine r_sV (Y := YL_law) (v := v1) dL_law_272 hv1 (by omega) (by omega) (by omega) ?_
  refine r_iV1I (Y := YL_law) mv_L_36 dL_law_273 (c_X8_judge kx hX hG hr1.1 hr1.2) (by assumption) (fun σ273 z273 h273 => ?_)
  obtain ⟨rfl, x1, f1⟩ := h273
  have hM1 := hM.fx f1
  have hSf := hS.fx f1
  have hS1f := hSf.1
  refine r_aload_n (Y := YL_law) dL_law_276 rfl ?_
  refine r_aload_n (Y := YL_law) dL_law_277 rfl ?_
  refine r_iload_n (Y := YL_law) dL_law_278 rfl ?_
  refine r_iconst (Y := YL_law) dL_law_279 ?_
  refine r_iadd (Y := YL_law) dL_law_280 ?_
  refine r_sV (Y := YL_law) (v := v1) dL_law_281 (by rw [f1 _ _ (by omega)]; exact hv1) (by omega) (by omega) (by omega) ?_
  refine r_iV1I (Y := YL_law) mv_L_39 dL_law_282 (c_X9_judge km hM1 hG hr1.1 hr1.2) (by assumption) (fun σ282 z282 h282 => ?_)
  obtain ⟨rfl, m1, f2⟩ := h282
  have hX1 := x1.fy f2
  have hSg := hSf.fy f2
  refine r_eqj (Y := YL_law) (tgt := 841) dL_law_285 (by decide) ?_
  exact R2.weak (by repeat first | exact trivial | refine And.intro rfl ?_) (hnext _ _ hX1 m1 (OKG_judge hG) hSg)
set_option maxRecDepth 20000 in
theorem law_6 {σ : ab_S} {G : GS} {i L : Nat} (hX : HX σ 1 G) (hM : HM σ 260 G) (hG : OKG G) (hS : SC σ L) (hi : i + 4 < L) (hL : L ≤ 2560) (kx : kd_ 1 8 8) (km : kd_ 260 9 37) (hnext : ∀ (τ : ab_S) (G2 : GS), HX τ 1 G2 → HM τ 260 G2 → OKG G2 → SC τ L → R2 YL_law 16 τ 841 [some (rf 0), some (rf 1), some (rf 260), some (iv i)] [] QL) : R2 YL_law 16 σ 290 [some (rf 0), some (rf 1), some (rf 260), some (iv i)] [] QL := by
  have hS1 := hS.1
  refine r_aload_n (Y := YL_law) dL_law_290 rfl ?_
  refine r_iV0I (Y := YL_law) mv_L_40 dL_law_291 (c_X8_done kx hX hG ) (by assumption) (fun σ291 z291 h291 => ?_)
  obtain ⟨rfl, x1, f1⟩ := h291
  have hM1 := hM.fx f1
  have hSf := hS.fx f1
  have hS1f := hSf.1
  refine r_aload_n (Y := YL_law) dL_law_294 rfl ?_
  refine r_iV0I (Y := YL_law) mv_L_43 dL_law_295 (c_X9_done km hM1 hG ) (by assumption) (fun σ295 z295 h295 => ?_)
  obtain ⟨rfl, m1, f2⟩ := h295
  have hX1 := x1.fy f2
  have hSg := hSf.fy f2
  refine r_eqj (Y := YL_law) (tgt := 841) dL_law_298 (by decide) ?_
  exact R2.weak (by repeat first | exact trivial | refine And.intro rfl ?_) (hnext _ _ hX1 m1 (OKG_done hG) hSg)
set_option maxRecDepth 20000 in
theorem law_7 {σ : ab_S} {G : GS} {i L : Nat} (hX : HX σ 1 G) (hM : HM σ 260 G) (hG : OKG G) (hS : SC σ L) (hi : i + 4 < L) (hL : L ≤ 2560) (kx : kd_ 1 8 8) (km : kd_ 260 9 37) (hnext : ∀ (τ : ab_S) (G2 : GS), HX τ 1 G2 → HM τ 260 G2 → OKG G2 → SC τ L → R2 YL_law 16 τ 841 [some (rf 0), some (rf 1), some (rf 260), some (iv i)] [] QL) : R2 YL_law 16 σ 303 [some (rf 0), some (rf 1), some (rf 260), some (iv i)] [] QL := by
  obtain ⟨v1, hv1⟩ : ∃ v, σ 0 ((i : Int) + 1) = v := ⟨_, rfl⟩
  have hr1 := hS.2 ((i : Int) + 1)
  rw [hv1] at hr1
  obtain ⟨v2, hv2⟩ : ∃ v, σ 0 ((i : Int) + 2) = v := ⟨_, rfl⟩
  have hr2 := hS.2 ((i : Int) + 2)
  rw [hv2] at hr2
  obtain ⟨v3, hv3⟩ : ∃ v, σ 0 ((i : Int) + 3) = v := ⟨_, rfl⟩
  have hr3 := hS.2 ((i : Int) + 3)
  rw [hv3] at hr3
  have hS1 := hS.1
  refine r_aload_n (Y := YL_law) dL_law_303 rfl ?_
  refine r_aload_n (Y := YL_law) dL_law_304 rfl ?_
  refine r_iload_n (Y := YL_law) dL_law_305 rfl ?_
  refine r_iconst (Y := YL_law) dL_law_306 ?_
  refine r_iadd (Y := YL_law) dL_law_307 ?_
  refine r_sV (Y := YL_law) (v := v1) dL_law_308 hv1 (by omega) (by omega) (by omega) ?_
  refine r_aload_n (Y := YL_law) dL_law_309 rfl ?_
  refine r_iload_n (Y := YL_law) dL_law_310 rfl ?_
  refine r_iconst (Y := YL_law) dL_law_311 ?_
  refine r_iadd (Y := YL_law) dL_law_312 ?_
  refine r_sV (Y := YL_law) (v := v2) dL_law_313 hv2 (by omega) (by omega) (by omega) ?_
  refine r_aload_n (Y := YL_law) dL_law_314 rfl ?_
  refine r_iload_n (Y := YL_law) dL_law_315 rfl ?_
  refine r_iconst (Y := YL_law) dL_law_316 ?_
  refine r_iadd (Y := YL_law) dL_law_317 ?_
  refine r_sV (Y := YL_law) (v := v3) dL_law_318 hv3 (by omega) (by omega) (by omega) ?_
  refine r_iV3I (Y := YL_law) mv_L_44 dL_law_319 (c_X8_lock kx hX hG hr1.1 hr1.2 hr2.1 hr2.2 hr3.1 hr3.2) (by assumption) (fun σ319 z319 h319 => ?_)
  obtain ⟨rfl, x1, f1⟩ := h319
  have hM1 := hM.fx f1
  have hSf := hS.fx f1
  have hS1f := hSf.1
  refine r_aload_n (Y := YL_law) dL_law_322 rfl ?_
  refine r_aload_n (Y := YL_law) dL_law_323 rfl ?_
  refine r_iload_n (Y := YL_law) dL_law_324 rfl ?_
  refine r_iconst (Y := YL_law) dL_law_325 ?_
  refine r_iadd (Y := YL_law) dL_law_326 ?_
  refine r_sV (Y := YL_law) (v := v1) dL_law_327 (by rw [f1 _ _ (by omega)]; exact hv1) (by omega) (by omega) (by omega) ?_
  refine r_aload_n (Y := YL_law) dL_law_328 rfl ?_
  refine r_iload_n (Y := YL_law) dL_law_329 rfl ?_
  refine r_iconst (Y := YL_law) dL_law_330 ?_
  refine r_iadd (Y := YL_law) dL_law_331 ?_
  refine r_sV (Y := YL_law) (v := v2) dL_law_332 (by rw [f1 _ _ (by omega)]; exact hv2) (by omega) (by omega) (by omega) ?_
  refine r_aload_n (Y := YL_law) dL_law_333 rfl ?_
  refine r_iload_n (Y := YL_law) dL_law_334 rfl ?_
  refine r_iconst (Y := YL_law) dL_law_335 ?_
  refine r_iadd (Y := YL_law) dL_law_336 ?_
  refine r_sV (Y := YL_law) (v := v3) dL_law_337 (by rw [f1 _ _ (by omega)]; exact hv3) (by omega) (by omega) (by omega) ?_
  refine r_iV3I (Y := YL_law) mv_L_47 dL_law_338 (c_X9_lock km hM1 hG hr1.1 hr1.2 hr2.1 hr2.2 hr3.1 hr3.2) (by assumption) (fun σ338 z338 h338 => ?_)
  obtain ⟨rfl, m1, f2⟩ := h338
  have hX1 := x1.fy f2
  have hSg := hSf.fy f2
  refine r_eqj (Y := YL_law) (tgt := 841) dL_law_341 (by decide) ?_
  exact R2.weak (by repeat first | exact trivial | refine And.intro rfl ?_) (hnext _ _ hX1 m1 ((by rw [OKG_lock]; exact hG)) hSg)
set_option maxRecDepth 20000 in
theorem law_8 {σ : ab_S} {G : GS} {i L : Nat} (hX : HX σ 1 G) (hM : HM σ 260 G) (hG : OKG G) (hS : SC σ L) (hi : i + 4 < L) (hL : L ≤ 2560) (kx : kd_ 1 8 8) (km : kd_ 260 9 37) (hnext : ∀ (τ : ab_S) (G2 : GS), HX τ 1 G2 → HM τ 260 G2 → OKG G2 → SC τ L → R2 YL_law 16 τ 841 [some (rf 0), some (rf 1), some (rf 260), some (iv i)] [] QL) : R2 YL_law 16 σ 346 [some (rf 0), some (rf 1), some (rf 260), some (iv i)] [] QL := by
  obtain ⟨v1, hv1⟩ : ∃ v, σ 0 ((i : Int) + 1) = v := ⟨_, rfl⟩
  have hr1 := hS.2 ((i : Int) + 1)
  rw [hv1] at hr1
  have hS1 := hS.1
  refine r_aload_n (Y := YL_law) dL_law_346 rfl ?_
  refine r_aload_n (Y := YL_law) dL_law_347 rfl ?_
  refine r_iload_n (Y := YL_law) dL_law_348 rfl ?_
  refine r_iconst (Y := YL_law) dL_law_349 ?_
  refine r_iadd (Y := YL_law) dL_law_350 ?_
  refine r_sV (Y := YL_law) (v := v1) dL_law_351 hv1 (by omega) (by omega) (by omega) ?_
  refine r_iV1I (Y := YL_law) mv_L_48 dL_law_352 (c_X8_power kx hX hG hr1.1 hr1.2) (by assumption) (fun σ352 z352 h352 => ?_)
  obtain ⟨rfl, x1, f1⟩ := h352
  have hM1 := hM.fx f1
  have hSf := hS.fx f1
  have hS1f := hSf.1
  refine r_aload_n (Y := YL_law) dL_law_355 rfl ?_
  refine r_aload_n (Y := YL_law) dL_law_356 rfl ?_
  refine r_iload_n (Y := YL_law) dL_law_357 rfl ?_
  refine r_iconst (Y := YL_law) dL_law_358 ?_
  refine r_iadd (Y := YL_law) dL_law_359 ?_
  refine r_sV (Y := YL_law) (v := v1) dL_law_360 (by rw [f1 _ _ (by omega)]; exact hv1) (by omega) (by omega) (by omega) ?_
  refine r_iV1I (Y := YL_law) mv_L_51 dL_law_361 (c_X9_power km hM1 hG hr1.1 hr1.2) (by assumption) (fun σ361 z361 h361 => ?_)
  obtain ⟨rfl, m1, f2⟩ := h361
  have hX1 := x1.fy f2
  have hSg := hSf.fy f2
  refine r_eqj (Y := YL_law) (tgt := 841) dL_law_364 (by decide) ?_
  exact R2.weak (by repeat first | exact trivial | refine And.intro rfl ?_) (hnext _ _ hX1 m1 ((by rw [OKG_power]; exact hG)) hSg)
set_option maxRecDepth 20000 in
theorem law_9 {σ : ab_S} {G : GS} {i L : Nat} (hX : HX σ 1 G) (hM : HM σ 260 G) (hG : OKG G) (hS : SC σ L) (hi : i + 4 < L) (hL : L ≤ 2560) (kx : kd_ 1 8 8) (km : kd_ 260 9 37) (hnext : ∀ (τ : ab_S) (G2 : GS), HX τ 1 G2 → HM τ 260 G2 → OKG G2 → SC τ L → R2 YL_law 16 τ 841 [some (rf 0), some (rf 1), some (rf 260), some (iv i)] [] QL) : R2 YL_law 16 σ 369 [some (rf 0), some (rf 1), some (rf 260), some (iv i)] [] QL := by
  have hS1 := hS.1
  refine r_aload_n (Y := YL_law) dL_law_369 rfl ?_
  refine r_iV0I (Y := YL_law) mv_L_52 dL_law_370 (c_X8_bears kx hX hG ) (by assumption) (fun σ370 z370 h370 => ?_)
  obtain ⟨rfl, x1, f1⟩ := h370
  have hM1 := hM.fx f1
  have hSf := hS.fx f1
  have hS1f := hSf.1
  refine r_aload_n (Y := YL_law) dL_law_373 rfl ?_
  refine r_iV0I (Y := YL_law) mv_L_55 dL_law_374 (c_X9_bears km hM1 hG ) (by assumption) (fun σ374 z374 h374 => ?_)
  obtain ⟨rfl, m1, f2⟩ := h374
  have hX1 := x1.fy f2
  have hSg := hSf.fy f2
  refine r_eqj (Y := YL_law) (tgt := 841) dL_law_377 (by decide) ?_
  exact R2.weak (by repeat first | exact trivial | refine And.intro rfl ?_) (hnext _ _ hX1 m1 (hG) hSg)
set_option maxRecDepth 20000 in
theorem law_10 {σ : ab_S} {G : GS} {i L : Nat} (hX : HX σ 1 G) (hM : HM σ 260 G) (hG : OKG G) (hS : SC σ L) (hi : i + 4 < L) (hL : L ≤ 2560) (kx : kd_ 1 8 8) (km : kd_ 260 9 37) (hnext : ∀ (τ : ab_S) (G2 : GS), HX τ 1 G2 → HM τ 260 G2 → OKG G2 → SC τ L → R2 YL_law 16 τ 841 [some (rf 0), some (rf 1), some (rf 260), some (iv i)] [] QL) : R2 YL_law 16 σ 382 [some (rf 0), some (rf 1), some (rf 260), some (iv i)] [] QL := by
  obtain ⟨v1, hv1⟩ : ∃ v, σ 0 ((i : Int) + 1) = v := ⟨_, rfl⟩
  have hr1 := hS.2 ((i : Int) + 1)
  rw [hv1] at hr1
  have hS1 := hS.1
  refine r_aload_n (Y := YL_law) dL_law_382 rfl ?_
  refine r_aload_n (Y := YL_law) dL_law_383 rfl ?_
  refine r_iload_n (Y := YL_law) dL_law_384 rfl ?_
  refine r_iconst (Y := YL_law) dL_law_385 ?_
  refine r_iadd (Y := YL_law) dL_law_386 ?_
  refine r_sV (Y := YL_law) (v := v1) dL_law_387 hv1 (by omega) (by omega) (by omega) ?_
  refine r_iV1I (Y := YL_law) mv_L_56 dL_law_388 (c_X8_broken kx hX hG hr1.1 hr1.2) (by assumption) (fun σ388 z388 h388 => ?_)
  obtain ⟨rfl, x1, f1⟩ := h388
  have hM1 := hM.fx f1
  have hSf := hS.fx f1
  have hS1f := hSf.1
  refine r_aload_n (Y := YL_law) dL_law_391 rfl ?_
  refine r_aload_n (Y := YL_law) dL_law_392 rfl ?_
  refine r_iload_n (Y := YL_law) dL_law_393 rfl ?_
  refine r_iconst (Y := YL_law) dL_law_394 ?_
  refine r_iadd (Y := YL_law) dL_law_395 ?_
  refine r_sV (Y := YL_law) (v := v1) dL_law_396 (by rw [f1 _ _ (by omega)]; exact hv1) (by omega) (by omega) (by omega) ?_
  refine r_iV1I (Y := YL_law) mv_L_59 dL_law_397 (c_X9_broken km hM1 hG hr1.1 hr1.2) (by assumption) (fun σ397 z397 h397 => ?_)
  obtain ⟨rfl, m1, f2⟩ := h397
  have hX1 := x1.fy f2
  have hSg := hSf.fy f2
  refine r_eqj (Y := YL_law) (tgt := 841) dL_law_400 (by decide) ?_
  exact R2.weak (by repeat first | exact trivial | refine And.intro rfl ?_) (hnext _ _ hX1 m1 ((by rw [OKG_broken]; exact hG)) hSg)
set_option maxRecDepth 20000 in
theorem law_11 {σ : ab_S} {G : GS} {i L : Nat} (hX : HX σ 1 G) (hM : HM σ 260 G) (hG : OKG G) (hS : SC σ L) (hi : i + 4 < L) (hL : L ≤ 2560) (kx : kd_ 1 8 8) (km : kd_ 260 9 37) (hnext : ∀ (τ : ab_S) (G2 : GS), HX τ 1 G2 → HM τ 260 G2 → OKG G2 → SC τ L → R2 YL_law 16 τ 841 [some (rf 0), some (rf 1), some (rf 260), some (iv i)] [] QL) : R2 YL_law 16 σ 405 [some (rf 0), some (rf 1), some (rf 260), some (iv i)] [] QL := by
  obtain ⟨v1, hv1⟩ : ∃ v, σ 0 ((i : Int) + 1) = v := ⟨_, rfl⟩
  have hr1 := hS.2 ((i : Int) + 1)
  rw [hv1] at hr1
  obtain ⟨v2, hv2⟩ : ∃ v, σ 0 ((i : Int) + 2) = v := ⟨_, rfl⟩
  have hr2 := hS.2 ((i : Int) + 2)
  rw [hv2] at hr2
  have hS1 := hS.1
  refine r_aload_n (Y := YL_law) dL_law_405 rfl ?_
  refine r_aload_n (Y := YL_law) dL_law_406 rfl ?_
  refine r_iload_n (Y := YL_law) dL_law_407 rfl ?_
  refine r_iconst (Y := YL_law) dL_law_408 ?_
  refine r_iadd (Y := YL_law) dL_law_409 ?_
  refine r_sV (Y := YL_law) (v := v1) dL_law_410 hv1 (by omega) (by omega) (by omega) ?_
  refine r_aload_n (Y := YL_law) dL_law_411 rfl ?_
  refine r_iload_n (Y := YL_law) dL_law_412 rfl ?_
  refine r_iconst (Y := YL_law) dL_law_413 ?_
  refine r_iadd (Y := YL_law) dL_law_414 ?_
  refine r_sV (Y := YL_law) (v := v2) dL_law_415 hv2 (by omega) (by omega) (by omega) ?_
  refine r_iV2L (Y := YL_law) mv_L_60 dL_law_416 (c_X8_share kx hX hG hr1.1 hr1.2 hr2.1 hr2.2) (by assumption) (fun σ416 z416 h416 => ?_)
  obtain ⟨rfl, x1, f1⟩ := h416
  have hM1 := hM.fx f1
  have hSf := hS.fx f1
  have hS1f := hSf.1
  refine r_aload_n (Y := YL_law) dL_law_419 rfl ?_
  refine r_aload_n (Y := YL_law) dL_law_420 rfl ?_
  refine r_iload_n (Y := YL_law) dL_law_421 rfl ?_
  refine r_iconst (Y := YL_law) dL_law_422 ?_
  refine r_iadd (Y := YL_law) dL_law_423 ?_
  refine r_sV (Y := YL_law) (v := v1) dL_law_424 (by rw [f1 _ _ (by omega)]; exact hv1) (by omega) (by omega) (by omega) ?_
  refine r_aload_n (Y := YL_law) dL_law_425 rfl ?_
  refine r_iload_n (Y := YL_law) dL_law_426 rfl ?_
  refine r_iconst (Y := YL_law) dL_law_427 ?_
  refine r_iadd (Y := YL_law) dL_law_428 ?_
  refine r_sV (Y := YL_law) (v := v2) dL_law_429 (by rw [f1 _ _ (by omega)]; exact hv2) (by omega) (by omega) (by omega) ?_
  refine r_iV2L (Y := YL_law) mv_L_64 dL_law_430 (c_X9_share km hM1 hG hr1.1 hr1.2 hr2.1 hr2.2) (by assumption) (fun σ430 z430 h430 => ?_)
  obtain ⟨rfl, m1, f2⟩ := h430
  have hX1 := x1.fy f2
  have hSg := hSf.fy f2
  refine r_eql (Y := YL_law) dL_law_433 ?_
  refine r_if_eq (Y := YL_law) (tgt := 841) dL_law_434 (by decide) (fun c434 => ?_) (fun c434 => absurd c434 (by omega)) 
  exact R2.weak (by repeat first | exact trivial | refine And.intro rfl ?_) (hnext _ _ hX1 m1 (hG) hSg)
set_option maxRecDepth 20000 in
theorem law_12 {σ : ab_S} {G : GS} {i L : Nat} (hX : HX σ 1 G) (hM : HM σ 260 G) (hG : OKG G) (hS : SC σ L) (hi : i + 4 < L) (hL : L ≤ 2560) (kx : kd_ 1 8 8) (km : kd_ 260 9 37) (hnext : ∀ (τ : ab_S) (G2 : GS), HX τ 1 G2 → HM τ 260 G2 → OKG G2 → SC τ L → R2 YL_law 16 τ 841 [some (rf 0), some (rf 1), some (rf 260), some (iv i)] [] QL) : R2 YL_law 16 σ 439 [some (rf 0), some (rf 1), some (rf 260), some (iv i)] [] QL := by
  obtain ⟨v1, hv1⟩ : ∃ v, σ 0 ((i : Int) + 1) = v := ⟨_, rfl⟩
  have hr1 := hS.2 ((i : Int) + 1)
  rw [hv1] at hr1
  obtain ⟨v2, hv2⟩ : ∃ v, σ 0 ((i : Int) + 2) = v := ⟨_, rfl⟩
  have hr2 := hS.2 ((i : Int) + 2)
  rw [hv2] at hr2
  have hS1 := hS.1
  refine r_aload_n (Y := YL_law) dL_law_439 rfl ?_
  refine r_aload_n (Y := YL_law) dL_law_440 rfl ?_
  refine r_iload_n (Y := YL_law) dL_law_441 rfl ?_
  refine r_iconst (Y := YL_law) dL_law_442 ?_
  refine r_iadd (Y := YL_law) dL_law_443 ?_
  refine r_sV (Y := YL_law) (v := v1) dL_law_444 hv1 (by omega) (by omega) (by omega) ?_
  refine r_aload_n (Y := YL_law) dL_law_445 rfl ?_
  refine r_iload_n (Y := YL_law) dL_law_446 rfl ?_
  refine r_iconst (Y := YL_law) dL_law_447 ?_
  refine r_iadd (Y := YL_law) dL_law_448 ?_
  refine r_sV (Y := YL_law) (v := v2) dL_law_449 hv2 (by omega) (by omega) (by omega) ?_
  refine r_iV2I (Y := YL_law) mv_L_65 dL_law_450 (c_X8_led kx hX hG hr1.1 hr1.2 hr2.1 hr2.2) (by assumption) (fun σ450 z450 h450 => ?_)
  obtain ⟨rfl, x1, f1⟩ := h450
  have hM1 := hM.fx f1
  have hSf := hS.fx f1
  have hS1f := hSf.1
  refine r_aload_n (Y := YL_law) dL_law_453 rfl ?_
  refine r_aload_n (Y := YL_law) dL_law_454 rfl ?_
  refine r_iload_n (Y := YL_law) dL_law_455 rfl ?_
  refine r_iconst (Y := YL_law) dL_law_456 ?_
  refine r_iadd (Y := YL_law) dL_law_457 ?_
  refine r_sV (Y := YL_law) (v := v1) dL_law_458 (by rw [f1 _ _ (by omega)]; exact hv1) (by omega) (by omega) (by omega) ?_
  refine r_aload_n (Y := YL_law) dL_law_459 rfl ?_
  refine r_iload_n (Y := YL_law) dL_law_460 rfl ?_
  refine r_iconst (Y := YL_law) dL_law_461 ?_
  refine r_iadd (Y := YL_law) dL_law_462 ?_
  refine r_sV (Y := YL_law) (v := v2) dL_law_463 (by rw [f1 _ _ (by omega)]; exact hv2) (by omega) (by omega) (by omega) ?_
  refine r_iV2I (Y := YL_law) mv_L_69 dL_law_464 (c_X9_led km hM1 hG hr1.1 hr1.2 hr2.1 hr2.2) (by assumption) (fun σ464 z464 h464 => ?_)
  obtain ⟨rfl, m1, f2⟩ := h464
  have hX1 := x1.fy f2
  have hSg := hSf.fy f2
  refine r_eqj (Y := YL_law) (tgt := 841) dL_law_467 (by decide) ?_
  exact R2.weak (by repeat first | exact trivial | refine And.intro rfl ?_) (hnext _ _ hX1 m1 ((by rw [OKG_led]; exact hG)) hSg)
set_option maxRecDepth 20000 in
theorem law_13 {σ : ab_S} {G : GS} {i L : Nat} (hX : HX σ 1 G) (hM : HM σ 260 G) (hG : OKG G) (hS : SC σ L) (hi : i + 4 < L) (hL : L ≤ 2560) (kx : kd_ 1 8 8) (km : kd_ 260 9 37) (hnext : ∀ (τ : ab_S) (G2 : GS), HX τ 1 G2 → HM τ 260 G2 → OKG G2 → SC τ L → R2 YL_law 16 τ 841 [some (rf 0), some (rf 1), some (rf 260), some (iv i)] [] QL) : R2 YL_law 16 σ 472 [some (rf 0), some (rf 1), some (rf 260), some (iv i)] [] QL := by
  obtain ⟨v1, hv1⟩ : ∃ v, σ 0 ((i : Int) + 1) = v := ⟨_, rfl⟩
  have hr1 := hS.2 ((i : Int) + 1)
  rw [hv1] at hr1
  obtain ⟨v2, hv2⟩ : ∃ v, σ 0 ((i : Int) + 2) = v := ⟨_, rfl⟩
  have hr2 := hS.2 ((i : Int) + 2)
  rw [hv2] at hr2
  have hS1 := hS.1
  refine r_aload_n (Y := YL_law) dL_law_472 rfl ?_
  refine r_aload_n (Y := YL_law) dL_law_473 rfl ?_
  refine r_iload_n (Y := YL_law) dL_law_474 rfl ?_
  refine r_iconst (Y := YL_law) dL_law_475 ?_
  refine r_iadd (Y := YL_law) dL_law_476 ?_
  refine r_sV (Y := YL_law) (v := v1) dL_law_477 hv1 (by omega) (by omega) (by omega) ?_
  refine r_aload_n (Y := YL_law) dL_law_478 rfl ?_
  refine r_iload_n (Y := YL_law) dL_law_479 rfl ?_
  refine r_iconst (Y := YL_law) dL_law_480 ?_
  refine r_iadd (Y := YL_law) dL_law_481 ?_
  refine r_sV (Y := YL_law) (v := v2) dL_law_482 hv2 (by omega) (by omega) (by omega) ?_
  refine r_iV2I (Y := YL_law) mv_L_70 dL_law_483 (c_X8_load kx hX hG hr1.1 hr1.2 hr2.1 hr2.2) (by assumption) (fun σ483 z483 h483 => ?_)
  obtain ⟨rfl, x1, f1⟩ := h483
  have hM1 := hM.fx f1
  have hSf := hS.fx f1
  have hS1f := hSf.1
  refine r_aload_n (Y := YL_law) dL_law_486 rfl ?_
  refine r_aload_n (Y := YL_law) dL_law_487 rfl ?_
  refine r_iload_n (Y := YL_law) dL_law_488 rfl ?_
  refine r_iconst (Y := YL_law) dL_law_489 ?_
  refine r_iadd (Y := YL_law) dL_law_490 ?_
  refine r_sV (Y := YL_law) (v := v1) dL_law_491 (by rw [f1 _ _ (by omega)]; exact hv1) (by omega) (by omega) (by omega) ?_
  refine r_aload_n (Y := YL_law) dL_law_492 rfl ?_
  refine r_iload_n (Y := YL_law) dL_law_493 rfl ?_
  refine r_iconst (Y := YL_law) dL_law_494 ?_
  refine r_iadd (Y := YL_law) dL_law_495 ?_
  refine r_sV (Y := YL_law) (v := v2) dL_law_496 (by rw [f1 _ _ (by omega)]; exact hv2) (by omega) (by omega) (by omega) ?_
  refine r_iV2I (Y := YL_law) mv_L_73 dL_law_497 (c_X9_load km hM1 hG hr1.1 hr1.2 hr2.1 hr2.2) (by assumption) (fun σ497 z497 h497 => ?_)
  obtain ⟨rfl, m1, f2⟩ := h497
  have hX1 := x1.fy f2
  have hSg := hSf.fy f2
  refine r_eqj (Y := YL_law) (tgt := 841) dL_law_500 (by decide) ?_
  exact R2.weak (by repeat first | exact trivial | refine And.intro rfl ?_) (hnext _ _ hX1 m1 (OKG_load hG) hSg)
set_option maxRecDepth 20000 in
theorem law_14 {σ : ab_S} {G : GS} {i L : Nat} (hX : HX σ 1 G) (hM : HM σ 260 G) (hG : OKG G) (hS : SC σ L) (hi : i + 4 < L) (hL : L ≤ 2560) (kx : kd_ 1 8 8) (km : kd_ 260 9 37) (hnext : ∀ (τ : ab_S) (G2 : GS), HX τ 1 G2 → HM τ 260 G2 → OKG G2 → SC τ L → R2 YL_law 16 τ 841 [some (rf 0), some (rf 1), some (rf 260), some (iv i)] [] QL) : R2 YL_law 16 σ 505 [some (rf 0), some (rf 1), some (rf 260), some (iv i)] [] QL := by
  have hS1 := hS.1
  refine r_aload_n (Y := YL_law) dL_law_505 rfl ?_
  refine r_iV0I (Y := YL_law) mv_L_74 dL_law_506 (c_X8_drop kx hX hG ) (by assumption) (fun σ506 z506 h506 => ?_)
  obtain ⟨rfl, x1, f1⟩ := h506
  have hM1 := hM.fx f1
  have hSf := hS.fx f1
  have hS1f := hSf.1
  refine r_aload_n (Y := YL_law) dL_law_509 rfl ?_
  refine r_iV0I (Y := YL_law) mv_L_77 dL_law_510 (c_X9_drop km hM1 hG ) (by assumption) (fun σ510 z510 h510 => ?_)
  obtain ⟨rfl, m1, f2⟩ := h510
  have hX1 := x1.fy f2
  have hSg := hSf.fy f2
  refine r_eqj (Y := YL_law) (tgt := 841) dL_law_513 (by decide) ?_
  exact R2.weak (by repeat first | exact trivial | refine And.intro rfl ?_) (hnext _ _ hX1 m1 (OKG_drop hG) hSg)
set_option maxRecDepth 20000 in
theorem law_15 {σ : ab_S} {G : GS} {i L : Nat} (hX : HX σ 1 G) (hM : HM σ 260 G) (hG : OKG G) (hS : SC σ L) (hi : i + 4 < L) (hL : L ≤ 2560) (kx : kd_ 1 8 8) (km : kd_ 260 9 37) (hnext : ∀ (τ : ab_S) (G2 : GS), HX τ 1 G2 → HM τ 260 G2 → OKG G2 → SC τ L → R2 YL_law 16 τ 841 [some (rf 0), some (rf 1), some (rf 260), some (iv i)] [] QL) : R2 YL_law 16 σ 518 [some (rf 0), some (rf 1), some (rf 260), some (iv i)] [] QL := by
  obtain ⟨v1, hv1⟩ : ∃ v, σ 0 ((i : Int) + 1) = v := ⟨_, rfl⟩
  have hr1 := hS.2 ((i : Int) + 1)
  rw [hv1] at hr1
  have hS1 := hS.1
  refine r_aload_n (Y := YL_law) dL_law_518 rfl ?_
  refine r_aload_n (Y := YL_law) dL_law_519 rfl ?_
  refine r_iload_n (Y := YL_law) dL_law_520 rfl ?_
  refine r_iconst (Y := YL_law) dL_law_521 ?_
  refine r_iadd (Y := YL_law) dL_law_522 ?_
  refine r_sV (Y := YL_law) (v := v1) dL_law_523 hv1 (by omega) (by omega) (by omega) ?_
  refine r_iV1I (Y := YL_law) mv_L_78 dL_law_524 (c_X8_best kx hX hG hr1.1 hr1.2) (by assumption) (fun σ524 z524 h524 => ?_)
  obtain ⟨rfl, x1, f1⟩ := h524
  have hM1 := hM.fx f1
  have hSf := hS.fx f1
  have hS1f := hSf.1
  refine r_aload_n (Y := YL_law) dL_law_527 rfl ?_
  refine r_aload_n (Y := YL_law) dL_law_528 rfl ?_
  refine r_iload_n (Y := YL_law) dL_law_529 rfl ?_
  refine r_iconst (Y := YL_law) dL_law_530 ?_
  refine r_iadd (Y := YL_law) dL_law_531 ?_
  refine r_sV (Y := YL_law) (v := v1) dL_law_532 (by rw [f1 _ _ (by omega)]; exact hv1) (by omega) (by omega) (by omega) ?_
  refine r_iV1I (Y := YL_law) mv_L_81 dL_law_533 (c_X9_best km hM1 hG hr1.1 hr1.2) (by assumption) (fun σ533 z533 h533 => ?_)
  obtain ⟨rfl, m1, f2⟩ := h533
  have hX1 := x1.fy f2
  have hSg := hSf.fy f2
  refine r_eqj (Y := YL_law) (tgt := 841) dL_law_536 (by decide) ?_
  exact R2.weak (by repeat first | exact trivial | refine And.intro rfl ?_) (hnext _ _ hX1 m1 ((by rw [OKG_best]; exact hG)) hSg)
set_option maxRecDepth 20000 in
theorem law_16 {σ : ab_S} {G : GS} {i L : Nat} (hX : HX σ 1 G) (hM : HM σ 260 G) (hG : OKG G) (hS : SC σ L) (hi : i + 4 < L) (hL : L ≤ 2560) (kx : kd_ 1 8 8) (km : kd_ 260 9 37) (hnext : ∀ (τ : ab_S) (G2 : GS), HX τ 1 G2 → HM τ 260 G2 → OKG G2 → SC τ L → R2 YL_law 16 τ 841 [some (rf 0), some (rf 1), some (rf 260), some (iv i)] [] QL) : R2 YL_law 16 σ 541 [some (rf 0), some (rf 1), some (rf 260), some (iv i)] [] QL := by
  obtain ⟨v1, hv1⟩ : ∃ v, σ 0 ((i : Int) + 1) = v := ⟨_, rfl⟩
  have hr1 := hS.2 ((i : Int) + 1)
  rw [hv1] at hr1
  obtain ⟨v2, hv2⟩ : ∃ v, σ 0 ((i : Int) + 2) = v := ⟨_, rfl⟩
  have hr2 := hS.2 ((i : Int) + 2)
  rw [hv2] at hr2
  obtain ⟨v3, hv3⟩ : ∃ v, σ 0 ((i : Int) + 3) = v := ⟨_, rfl⟩
  have hr3 := hS.2 ((i : Int) + 3)
  rw [hv3] at hr3
  have hS1 := hS.1
  refine r_aload_n (Y := YL_law) dL_law_541 rfl ?_
  refine r_aload_n (Y := YL_law) dL_law_542 rfl ?_
  refine r_iload_n (Y := YL_law) dL_law_543 rfl ?_
  refine r_iconst (Y := YL_law) dL_law_544 ?_
  refine r_iadd (Y := YL_law) dL_law_545 ?_
  refine r_sV (Y := YL_law) (v := v1) dL_law_546 hv1 (by omega) (by omega) (by omega) ?_
  refine r_aload_n (Y := YL_law) dL_law_547 rfl ?_
  refine r_iload_n (Y := YL_law) dL_law_548 rfl ?_
  refine r_iconst (Y := YL_law) dL_law_549 ?_
  refine r_iadd (Y := YL_law) dL_law_550 ?_
  refine r_sV (Y := YL_law) (v := v2) dL_law_551 hv2 (by omega) (by omega) (by omega) ?_
  refine r_aload_n (Y := YL_law) dL_law_552 rfl ?_
  refine r_iload_n (Y := YL_law) dL_law_553 rfl ?_
  refine r_iconst (Y := YL_law) dL_law_554 ?_
  refine r_iadd (Y := YL_law) dL_law_555 ?_
  refine r_sV (Y := YL_law) (v := v3) dL_law_556 hv3 (by omega) (by omega) (by omega) ?_
  refine r_iV3I (Y := YL_law) mv_L_82 dL_law_557 (c_X8_renewed kx hX hG hr1.1 hr1.2 hr2.1 hr2.2 hr3.1 hr3.2) (by assumption) (fun σ557 z557 h557 => ?_)
  obtain ⟨rfl, x1, f1⟩ := h557
  have hM1 := hM.fx f1
  have hSf := hS.fx f1
  have hS1f := hSf.1
  refine r_aload_n (Y := YL_law) dL_law_560 rfl ?_
  refine r_aload_n (Y := YL_law) dL_law_561 rfl ?_
  refine r_iload_n (Y := YL_law) dL_law_562 rfl ?_
  refine r_iconst (Y := YL_law) dL_law_563 ?_
  refine r_iadd (Y := YL_law) dL_law_564 ?_
  refine r_sV (Y := YL_law) (v := v1) dL_law_565 (by rw [f1 _ _ (by omega)]; exact hv1) (by omega) (by omega) (by omega) ?_
  refine r_aload_n (Y := YL_law) dL_law_566 rfl ?_
  refine r_iload_n (Y := YL_law) dL_law_567 rfl ?_
  refine r_iconst (Y := YL_law) dL_law_568 ?_
  refine r_iadd (Y := YL_law) dL_law_569 ?_
  refine r_sV (Y := YL_law) (v := v2) dL_law_570 (by rw [f1 _ _ (by omega)]; exact hv2) (by omega) (by omega) (by omega) ?_
  refine r_aload_n (Y := YL_law) dL_law_571 rfl ?_
  refine r_iload_n (Y := YL_law) dL_law_572 rfl ?_
  refine r_iconst (Y := YL_law) dL_law_573 ?_
  refine r_iadd (Y := YL_law) dL_law_574 ?_
  refine r_sV (Y := YL_law) (v := v3) dL_law_575 (by rw [f1 _ _ (by omega)]; exact hv3) (by omega) (by omega) (by omega) ?_
  refine r_iV3I (Y := YL_law) mv_L_85 dL_law_576 (c_X9_renewed km hM1 hG hr1.1 hr1.2 hr2.1 hr2.2 hr3.1 hr3.2) (by assumption) (fun σ576 z576 h576 => ?_)
  obtain ⟨rfl, m1, f2⟩ := h576
  have hX1 := x1.fy f2
  have hSg := hSf.fy f2
  refine r_eqj (Y := YL_law) (tgt := 841) dL_law_579 (by decide) ?_
  exact R2.weak (by repeat first | exact trivial | refine And.intro rfl ?_) (hnext _ _ hX1 m1 ((by rw [OKG_renew]; exact hG)) hSg)
set_option maxRecDepth 20000 in
theorem law_17 {σ : ab_S} {G : GS} {i L : Nat} (hX : HX σ 1 G) (hM : HM σ 260 G) (hG : OKG G) (hS : SC σ L) (hi : i + 4 < L) (hL : L ≤ 2560) (kx : kd_ 1 8 8) (km : kd_ 260 9 37) (hnext : ∀ (τ : ab_S) (G2 : GS), HX τ 1 G2 → HM τ 260 G2 → OKG G2 → SC τ L → R2 YL_law 16 τ 841 [some (rf 0), some (rf 1), some (rf 260), some (iv i)] [] QL) : R2 YL_law 16 σ 584 [some (rf 0), some (rf 1), some (rf 260), some (iv i)] [] QL := by
  obtain ⟨v1, hv1⟩ : ∃ v, σ 0 ((i : Int) + 1) = v := ⟨_, rfl⟩
  have hr1 := hS.2 ((i : Int) + 1)
  rw [hv1] at hr1
  obtain ⟨v2, hv2⟩ : ∃ v, σ 0 ((i : Int) + 2) = v := ⟨_, rfl⟩
  have hr2 := hS.2 ((i : Int) + 2)
  rw [hv2] at hr2
  obtain ⟨v3, hv3⟩ : ∃ v, σ 0 ((i : Int) + 3) = v := ⟨_, rfl⟩
  have hr3 := hS.2 ((i : Int) + 3)
  rw [hv3] at hr3
  obtain ⟨v4, hv4⟩ : ∃ v, σ 0 ((i : Int) + 4) = v := ⟨_, rfl⟩
  have hr4 := hS.2 ((i : Int) + 4)
  rw [hv4] at hr4
  have hS1 := hS.1
  refine r_aload_n (Y := YL_law) dL_law_584 rfl ?_
  refine r_aload_n (Y := YL_law) dL_law_585 rfl ?_
  refine r_iload_n (Y := YL_law) dL_law_586 rfl ?_
  refine r_iconst (Y := YL_law) dL_law_587 ?_
  refine r_iadd (Y := YL_law) dL_law_588 ?_
  refine r_sV (Y := YL_law) (v := v1) dL_law_589 hv1 (by omega) (by omega) (by omega) ?_
  refine r_aload_n (Y := YL_law) dL_law_590 rfl ?_
  refine r_iload_n (Y := YL_law) dL_law_591 rfl ?_
  refine r_iconst (Y := YL_law) dL_law_592 ?_
  refine r_iadd (Y := YL_law) dL_law_593 ?_
  refine r_sV (Y := YL_law) (v := v2) dL_law_594 hv2 (by omega) (by omega) (by omega) ?_
  refine r_aload_n (Y := YL_law) dL_law_595 rfl ?_
  refine r_iload_n (Y := YL_law) dL_law_596 rfl ?_
  refine r_iconst (Y := YL_law) dL_law_597 ?_
  refine r_iadd (Y := YL_law) dL_law_598 ?_
  refine r_sV (Y := YL_law) (v := v3) dL_law_599 hv3 (by omega) (by omega) (by omega) ?_
  refine r_aload_n (Y := YL_law) dL_law_600 rfl ?_
  refine r_iload_n (Y := YL_law) dL_law_601 rfl ?_
  refine r_iconst (Y := YL_law) dL_law_602 ?_
  refine r_iadd (Y := YL_law) dL_law_603 ?_
  refine r_sV (Y := YL_law) (v := v4) dL_law_604 hv4 (by omega) (by omega) (by omega) ?_
  refine r_iV4I (Y := YL_law) mv_L_86 dL_law_605 (c_X8_soon kx hX hG hr1.1 hr1.2 hr2.1 hr2.2 hr3.1 hr3.2 hr4.1 hr4.2) (by assumption) (fun σ605 z605 h605 => ?_)
  obtain ⟨rfl, x1, f1⟩ := h605
  have hM1 := hM.fx f1
  have hSf := hS.fx f1
  have hS1f := hSf.1
  refine r_aload_n (Y := YL_law) dL_law_608 rfl ?_
  refine r_aload_n (Y := YL_law) dL_law_609 rfl ?_
  refine r_iload_n (Y := YL_law) dL_law_610 rfl ?_
  refine r_iconst (Y := YL_law) dL_law_611 ?_
  refine r_iadd (Y := YL_law) dL_law_612 ?_
  refine r_sV (Y := YL_law) (v := v1) dL_law_613 (by rw [f1 _ _ (by omega)]; exact hv1) (by omega) (by omega) (by omega) ?_
  refine r_aload_n (Y := YL_law) dL_law_614 rfl ?_
  refine r_iload_n (Y := YL_law) dL_law_615 rfl ?_
  refine r_iconst (Y := YL_law) dL_law_616 ?_
  refine r_iadd (Y := YL_law) dL_law_617 ?_
  refine r_sV (Y := YL_law) (v := v2) dL_law_618 (by rw [f1 _ _ (by omega)]; exact hv2) (by omega) (by omega) (by omega) ?_
  refine r_aload_n (Y := YL_law) dL_law_619 rfl ?_
  refine r_iload_n (Y := YL_law) dL_law_620 rfl ?_
  refine r_iconst (Y := YL_law) dL_law_621 ?_
  refine r_iadd (Y := YL_law) dL_law_622 ?_
  refine r_sV (Y := YL_law) (v := v3) dL_law_623 (by rw [f1 _ _ (by omega)]; exact hv3) (by omega) (by omega) (by omega) ?_
  refine r_aload_n (Y := YL_law) dL_law_624 rfl ?_
  refine r_iload_n (Y := YL_law) dL_law_625 rfl ?_
  refine r_iconst (Y := YL_law) dL_law_626 ?_
  refine r_iadd (Y := YL_law) dL_law_627 ?_
  refine r_sV (Y := YL_law) (v := v4) dL_law_628 (by rw [f1 _ _ (by omega)]; exact hv4) (by omega) (by omega) (by omega) ?_
  refine r_iV4I (Y := YL_law) mv_L_90 dL_law_629 (c_X9_soon km hM1 hG hr1.1 hr1.2 hr2.1 hr2.2 hr3.1 hr3.2 hr4.1 hr4.2) (by assumption) (fun σ629 z629 h629 => ?_)
  obtain ⟨rfl, m1, f2⟩ := h629
  have hX1 := x1.fy f2
  have hSg := hSf.fy f2
  refine r_eqj (Y := YL_law) (tgt := 841) dL_law_632 (by decide) ?_
  exact R2.weak (by repeat first | exact trivial | refine And.intro rfl ?_) (hnext _ _ hX1 m1 ((by rw [OKG_soon]; exact hG)) hSg)
set_option maxRecDepth 20000 in
theorem law_18 {σ : ab_S} {G : GS} {i L : Nat} (hX : HX σ 1 G) (hM : HM σ 260 G) (hG : OKG G) (hS : SC σ L) (hi : i + 4 < L) (hL : L ≤ 2560) (kx : kd_ 1 8 8) (km : kd_ 260 9 37) (hnext : ∀ (τ : ab_S) (G2 : GS), HX τ 1 G2 → HM τ 260 G2 → OKG G2 → SC τ L → R2 YL_law 16 τ 841 [some (rf 0), some (rf 1), some (rf 260), some (iv i)] [] QL) : R2 YL_law 16 σ 637 [some (rf 0), some (rf 1), some (rf 260), some (iv i)] [] QL := by
  obtain ⟨v1, hv1⟩ : ∃ v, σ 0 ((i : Int) + 1) = v := ⟨_, rfl⟩
  have hr1 := hS.2 ((i : Int) + 1)
  rw [hv1] at hr1
  obtain ⟨v2, hv2⟩ : ∃ v, σ 0 ((i : Int) + 2) = v := ⟨_, rfl⟩
  have hr2 := hS.2 ((i : Int) + 2)
  rw [hv2] at hr2
  have hS1 := hS.1
  refine r_aload_n (Y := YL_law) dL_law_637 rfl ?_
  refine r_aload_n (Y := YL_law) dL_law_638 rfl ?_
  refine r_iload_n (Y := YL_law) dL_law_639 rfl ?_
  refine r_iconst (Y := YL_law) dL_law_640 ?_
  refine r_iadd (Y := YL_law) dL_law_641 ?_
  refine r_sV (Y := YL_law) (v := v1) dL_law_642 hv1 (by omega) (by omega) (by omega) ?_
  refine r_aload_n (Y := YL_law) dL_law_643 rfl ?_
  refine r_iload_n (Y := YL_law) dL_law_644 rfl ?_
  refine r_iconst (Y := YL_law) dL_law_645 ?_
  refine r_iadd (Y := YL_law) dL_law_646 ?_
  refine r_sV (Y := YL_law) (v := v2) dL_law_647 hv2 (by omega) (by omega) (by omega) ?_
  refine r_iV2I (Y := YL_law) mv_L_91 dL_law_648 (c_X8_weighed kx hX hG hr1.1 hr1.2 hr2.1 hr2.2) (by assumption) (fun σ648 z648 h648 => ?_)
  obtain ⟨rfl, x1, f1⟩ := h648
  have hM1 := hM.fx f1
  have hSf := hS.fx f1
  have hS1f := hSf.1
  refine r_aload_n (Y := YL_law) dL_law_651 rfl ?_
  refine r_aload_n (Y := YL_law) dL_law_652 rfl ?_
  refine r_iload_n (Y := YL_law) dL_law_653 rfl ?_
  refine r_iconst (Y := YL_law) dL_law_654 ?_
  refine r_iadd (Y := YL_law) dL_law_655 ?_
  refine r_sV (Y := YL_law) (v := v1) dL_law_656 (by rw [f1 _ _ (by omega)]; exact hv1) (by omega) (by omega) (by omega) ?_
  refine r_aload_n (Y := YL_law) dL_law_657 rfl ?_
  refine r_iload_n (Y := YL_law) dL_law_658 rfl ?_
  refine r_iconst (Y := YL_law) dL_law_659 ?_
  refine r_iadd (Y := YL_law) dL_law_660 ?_
  refine r_sV (Y := YL_law) (v := v2) dL_law_661 (by rw [f1 _ _ (by omega)]; exact hv2) (by omega) (by omega) (by omega) ?_
  refine r_iV2I (Y := YL_law) mv_L_94 dL_law_662 (c_X9_weighed km hM1 hG hr1.1 hr1.2 hr2.1 hr2.2) (by assumption) (fun σ662 z662 h662 => ?_)
  obtain ⟨rfl, m1, f2⟩ := h662
  have hX1 := x1.fy f2
  have hSg := hSf.fy f2
  refine r_eqj (Y := YL_law) (tgt := 841) dL_law_665 (by decide) ?_
  exact R2.weak (by repeat first | exact trivial | refine And.intro rfl ?_) (hnext _ _ hX1 m1 (OKG_weigh hG) hSg)
set_option maxRecDepth 20000 in
theorem law_19 {σ : ab_S} {G : GS} {i L : Nat} (hX : HX σ 1 G) (hM : HM σ 260 G) (hG : OKG G) (hS : SC σ L) (hi : i + 4 < L) (hL : L ≤ 2560) (kx : kd_ 1 8 8) (km : kd_ 260 9 37) (hnext : ∀ (τ : ab_S) (G2 : GS), HX τ 1 G2 → HM τ 260 G2 → OKG G2 → SC τ L → R2 YL_law 16 τ 841 [some (rf 0), some (rf 1), some (rf 260), some (iv i)] [] QL) : R2 YL_law 16 σ 670 [some (rf 0), some (rf 1), some (rf 260), some (iv i)] [] QL := by
  have hS1 := hS.1
  refine r_aload_n (Y := YL_law) dL_law_670 rfl ?_
  refine r_iV0I (Y := YL_law) mv_L_95 dL_law_671 (c_X8_forget kx hX hG ) (by assumption) (fun σ671 z671 h671 => ?_)
  obtain ⟨rfl, x1, f1⟩ := h671
  have hM1 := hM.fx f1
  have hSf := hS.fx f1
  have hS1f := hSf.1
  refine r_aload_n (Y := YL_law) dL_law_674 rfl ?_
  refine r_iV0I (Y := YL_law) mv_L_98 dL_law_675 (c_X9_forget km hM1 hG ) (by assumption) (fun σ675 z675 h675 => ?_)
  obtain ⟨rfl, m1, f2⟩ := h675
  have hX1 := x1.fy f2
  have hSg := hSf.fy f2
  refine r_eqj (Y := YL_law) (tgt := 841) dL_law_678 (by decide) ?_
  exact R2.weak (by repeat first | exact trivial | refine And.intro rfl ?_) (hnext _ _ hX1 m1 (OKG_forget hG) hSg)
set_option maxRecDepth 20000 in
theorem law_20 {σ : ab_S} {G : GS} {i L : Nat} (hX : HX σ 1 G) (hM : HM σ 260 G) (hG : OKG G) (hS : SC σ L) (hi : i + 4 < L) (hL : L ≤ 2560) (kx : kd_ 1 8 8) (km : kd_ 260 9 37) (hnext : ∀ (τ : ab_S) (G2 : GS), HX τ 1 G2 → HM τ 260 G2 → OKG G2 → SC τ L → R2 YL_law 16 τ 841 [some (rf 0), some (rf 1), some (rf 260), some (iv i)] [] QL) : R2 YL_law 16 σ 683 [some (rf 0), some (rf 1), some (rf 260), some (iv i)] [] QL := by
  obtain ⟨v1, hv1⟩ : ∃ v, σ 0 ((i : Int) + 1) = v := ⟨_, rfl⟩
  have hr1 := hS.2 ((i : Int) + 1)
  rw [hv1] at hr1
  have hS1 := hS.1
  refine r_aload_n (Y := YL_law) dL_law_683 rfl ?_
  refine r_aload_n (Y := YL_law) dL_law_684 rfl ?_
  refine r_iload_n (Y := YL_law) dL_law_685 rfl ?_
  refine r_iconst (Y := YL_law) dL_law_686 ?_
  refine r_iadd (Y := YL_law) dL_law_687 ?_
  refine r_sV (Y := YL_law) (v := v1) dL_law_688 hv1 (by omega) (by omega) (by omega) ?_
  refine r_iV1I (Y := YL_law) mv_L_99 dL_law_689 (c_X8_canBe kx hX hG hr1.1 hr1.2) (by assumption) (fun σ689 z689 h689 => ?_)
  obtain ⟨rfl, x1, f1⟩ := h689
  have hM1 := hM.fx f1
  have hSf := hS.fx f1
  have hS1f := hSf.1
  refine r_aload_n (Y := YL_law) dL_law_692 rfl ?_
  refine r_aload_n (Y := YL_law) dL_law_693 rfl ?_
  refine r_iload_n (Y := YL_law) dL_law_694 rfl ?_
  refine r_iconst (Y := YL_law) dL_law_695 ?_
  refine r_iadd (Y := YL_law) dL_law_696 ?_
  refine r_sV (Y := YL_law) (v := v1) dL_law_697 (by rw [f1 _ _ (by omega)]; exact hv1) (by omega) (by omega) (by omega) ?_
  refine r_iV1I (Y := YL_law) mv_L_102 dL_law_698 (c_X9_canBe km hM1 hG hr1.1 hr1.2) (by assumption) (fun σ698 z698 h698 => ?_)
  obtain ⟨rfl, m1, f2⟩ := h698
  have hX1 := x1.fy f2
  have hSg := hSf.fy f2
  refine r_eqj (Y := YL_law) (tgt := 841) dL_law_701 (by decide) ?_
  exact R2.weak (by repeat first | exact trivial | refine And.intro rfl ?_) (hnext _ _ hX1 m1 ((by rw [OKG_can]; exact hG)) hSg)
set_option maxRecDepth 20000 in
theorem law_21 {σ : ab_S} {G : GS} {i L : Nat} (hX : HX σ 1 G) (hM : HM σ 260 G) (hG : OKG G) (hS : SC σ L) (hi : i + 4 < L) (hL : L ≤ 2560) (kx : kd_ 1 8 8) (km : kd_ 260 9 37) (hnext : ∀ (τ : ab_S) (G2 : GS), HX τ 1 G2 → HM τ 260 G2 → OKG G2 → SC τ L → R2 YL_law 16 τ 841 [some (rf 0), some (rf 1), some (rf 260), some (iv i)] [] QL) : R2 YL_law 16 σ 706 [some (rf 0), some (rf 1), some (rf 260), some (iv i)] [] QL := by
  obtain ⟨v1, hv1⟩ : ∃ v, σ 0 ((i : Int) + 1) = v := ⟨_, rfl⟩
  have hr1 := hS.2 ((i : Int) + 1)
  rw [hv1] at hr1
  have hS1 := hS.1
  refine r_aload_n (Y := YL_law) dL_law_706 rfl ?_
  refine r_aload_n (Y := YL_law) dL_law_707 rfl ?_
  refine r_iload_n (Y := YL_law) dL_law_708 rfl ?_
  refine r_iconst (Y := YL_law) dL_law_709 ?_
  refine r_iadd (Y := YL_law) dL_law_710 ?_
  refine r_sV (Y := YL_law) (v := v1) dL_law_711 hv1 (by omega) (by omega) (by omega) ?_
  refine r_iV1I (Y := YL_law) mv_L_103 dL_law_712 (c_X8_sure kx hX hG hr1.1 hr1.2) (by assumption) (fun σ712 z712 h712 => ?_)
  obtain ⟨rfl, x1, f1⟩ := h712
  have hM1 := hM.fx f1
  have hSf := hS.fx f1
  have hS1f := hSf.1
  refine r_aload_n (Y := YL_law) dL_law_715 rfl ?_
  refine r_aload_n (Y := YL_law) dL_law_716 rfl ?_
  refine r_iload_n (Y := YL_law) dL_law_717 rfl ?_
  refine r_iconst (Y := YL_law) dL_law_718 ?_
  refine r_iadd (Y := YL_law) dL_law_719 ?_
  refine r_sV (Y := YL_law) (v := v1) dL_law_720 (by rw [f1 _ _ (by omega)]; exact hv1) (by omega) (by omega) (by omega) ?_
  refine r_iV1I (Y := YL_law) mv_L_106 dL_law_721 (c_X9_sure km hM1 hG hr1.1 hr1.2) (by assumption) (fun σ721 z721 h721 => ?_)
  obtain ⟨rfl, m1, f2⟩ := h721
  have hX1 := x1.fy f2
  have hSg := hSf.fy f2
  refine r_eqj (Y := YL_law) (tgt := 841) dL_law_724 (by decide) ?_
  exact R2.weak (by repeat first | exact trivial | refine And.intro rfl ?_) (hnext _ _ hX1 m1 ((by rw [OKG_sure]; exact hG)) hSg)
set_option maxRecDepth 20000 in
theorem law_22 {σ : ab_S} {G : GS} {i L : Nat} (hX : HX σ 1 G) (hM : HM σ 260 G) (hG : OKG G) (hS : SC σ L) (hi : i + 4 < L) (hL : L ≤ 2560) (kx : kd_ 1 8 8) (km : kd_ 260 9 37) (hnext : ∀ (τ : ab_S) (G2 : GS), HX τ 1 G2 → HM τ 260 G2 → OKG G2 → SC τ L → R2 YL_law 16 τ 841 [some (rf 0), some (rf 1), some (rf 260), some (iv i)] [] QL) : R2 YL_law 16 σ 729 [some (rf 0), some (rf 1), some (rf 260), some (iv i)] [] QL := by
  obtain ⟨v1, hv1⟩ : ∃ v, σ 0 ((i : Int) + 1) = v := ⟨_, rfl⟩
  have hr1 := hS.2 ((i : Int) + 1)
  rw [hv1] at hr1
  obtain ⟨v2, hv2⟩ : ∃ v, σ 0 ((i : Int) + 2) = v := ⟨_, rfl⟩
  have hr2 := hS.2 ((i : Int) + 2)
  rw [hv2] at hr2
  obtain ⟨v3, hv3⟩ : ∃ v, σ 0 ((i : Int) + 3) = v := ⟨_, rfl⟩
  have hr3 := hS.2 ((i : Int) + 3)
  rw [hv3] at hr3
  have hS1 := hS.1
  refine r_aload_n (Y := YL_law) dL_law_729 rfl ?_
  refine r_aload_n (Y := YL_law) dL_law_730 rfl ?_
  refine r_iload_n (Y := YL_law) dL_law_731 rfl ?_
  refine r_iconst (Y := YL_law) dL_law_732 ?_
  refine r_iadd (Y := YL_law) dL_law_733 ?_
  refine r_sV (Y := YL_law) (v := v1) dL_law_734 hv1 (by omega) (by omega) (by omega) ?_
  refine r_aload_n (Y := YL_law) dL_law_735 rfl ?_
  refine r_iload_n (Y := YL_law) dL_law_736 rfl ?_
  refine r_iconst (Y := YL_law) dL_law_737 ?_
  refine r_iadd (Y := YL_law) dL_law_738 ?_
  refine r_sV (Y := YL_law) (v := v2) dL_law_739 hv2 (by omega) (by omega) (by omega) ?_
  refine r_aload_n (Y := YL_law) dL_law_740 rfl ?_
  refine r_iload_n (Y := YL_law) dL_law_741 rfl ?_
  refine r_iconst (Y := YL_law) dL_law_742 ?_
  refine r_iadd (Y := YL_law) dL_law_743 ?_
  refine r_sV (Y := YL_law) (v := v3) dL_law_744 hv3 (by omega) (by omega) (by omega) ?_
  refine r_iV3I (Y := YL_law) mv_L_107 dL_law_745 (c_X8_year kx hX hG hr1.1 hr1.2 hr2.1 hr2.2 hr3.1 hr3.2) (by assumption) (fun σ745 z745 h745 => ?_)
  obtain ⟨rfl, x1, f1⟩ := h745
  have hM1 := hM.fx f1
  have hSf := hS.fx f1
  have hS1f := hSf.1
  refine r_aload_n (Y := YL_law) dL_law_748 rfl ?_
  refine r_aload_n (Y := YL_law) dL_law_749 rfl ?_
  refine r_iload_n (Y := YL_law) dL_law_750 rfl ?_
  refine r_iconst (Y := YL_law) dL_law_751 ?_
  refine r_iadd (Y := YL_law) dL_law_752 ?_
  refine r_sV (Y := YL_law) (v := v1) dL_law_753 (by rw [f1 _ _ (by omega)]; exact hv1) (by omega) (by omega) (by omega) ?_
  refine r_aload_n (Y := YL_law) dL_law_754 rfl ?_
  refine r_iload_n (Y := YL_law) dL_law_755 rfl ?_
  refine r_iconst (Y := YL_law) dL_law_756 ?_
  refine r_iadd (Y := YL_law) dL_law_757 ?_
  refine r_sV (Y := YL_law) (v := v2) dL_law_758 (by rw [f1 _ _ (by omega)]; exact hv2) (by omega) (by omega) (by omega) ?_
  refine r_aload_n (Y := YL_law) dL_law_759 rfl ?_
  refine r_iload_n (Y := YL_law) dL_law_760 rfl ?_
  refine r_iconst (Y := YL_law) dL_law_761 ?_
  refine r_iadd (Y := YL_law) dL_law_762 ?_
  refine r_sV (Y := YL_law) (v := v3) dL_law_763 (by rw [f1 _ _ (by omega)]; exact hv3) (by omega) (by omega) (by omega) ?_
  refine r_iV3I (Y := YL_law) mv_L_110 dL_law_764 (c_X9_year km hM1 hG hr1.1 hr1.2 hr2.1 hr2.2 hr3.1 hr3.2) (by assumption) (fun σ764 z764 h764 => ?_)
  obtain ⟨rfl, m1, f2⟩ := h764
  have hX1 := x1.fy f2
  have hSg := hSf.fy f2
  refine r_eqj (Y := YL_law) (tgt := 841) dL_law_767 (by decide) ?_
  exact R2.weak (by repeat first | exact trivial | refine And.intro rfl ?_) (hnext _ _ hX1 m1 ((by rw [OKG_year]; exact hG)) hSg)
set_option maxRecDepth 20000 in
theorem law_23 {σ : ab_S} {G : GS} {i L : Nat} (hX : HX σ 1 G) (hM : HM σ 260 G) (hG : OKG G) (hS : SC σ L) (hi : i + 4 < L) (hL : L ≤ 2560) (kx : kd_ 1 8 8) (km : kd_ 260 9 37) (hnext : ∀ (τ : ab_S) (G2 : GS), HX τ 1 G2 → HM τ 260 G2 → OKG G2 → SC τ L → R2 YL_law 16 τ 841 [some (rf 0), some (rf 1), some (rf 260), some (iv i)] [] QL) : R2 YL_law 16 σ 772 [some (rf 0), some (rf 1), some (rf 260), some (iv i)] [] QL := by
  obtain ⟨v1, hv1⟩ : ∃ v, σ 0 ((i : Int) + 1) = v := ⟨_, rfl⟩
  have hr1 := hS.2 ((i : Int) + 1)
  rw [hv1] at hr1
  have hS1 := hS.1
  refine r_aload_n (Y := YL_law) dL_law_772 rfl ?_
  refine r_aload_n (Y := YL_law) dL_law_773 rfl ?_
  refine r_iload_n (Y := YL_law) dL_law_774 rfl ?_
  refine r_iconst (Y := YL_law) dL_law_775 ?_
  refine r_iadd (Y := YL_law) dL_law_776 ?_
  refine r_sV (Y := YL_law) (v := v1) dL_law_777 hv1 (by omega) (by omega) (by omega) ?_
  refine r_iV1I (Y := YL_law) mv_L_111 dL_law_778 (c_X8_image kx hX hG hr1.1 hr1.2) (by assumption) (fun σ778 z778 h778 => ?_)
  obtain ⟨rfl, x1, f1⟩ := h778
  have hM1 := hM.fx f1
  have hSf := hS.fx f1
  have hS1f := hSf.1
  refine r_aload_n (Y := YL_law) dL_law_781 rfl ?_
  refine r_aload_n (Y := YL_law) dL_law_782 rfl ?_
  refine r_iload_n (Y := YL_law) dL_law_783 rfl ?_
  refine r_iconst (Y := YL_law) dL_law_784 ?_
  refine r_iadd (Y := YL_law) dL_law_785 ?_
  refine r_sV (Y := YL_law) (v := v1) dL_law_786 (by rw [f1 _ _ (by omega)]; exact hv1) (by omega) (by omega) (by omega) ?_
  refine r_iV1I (Y := YL_law) mv_L_114 dL_law_787 (c_X9_image km hM1 hG hr1.1 hr1.2) (by assumption) (fun σ787 z787 h787 => ?_)
  obtain ⟨rfl, m1, f2⟩ := h787
  have hX1 := x1.fy f2
  have hSg := hSf.fy f2
  refine r_eqj (Y := YL_law) (tgt := 841) dL_law_790 (by decide) ?_
  exact R2.weak (by repeat first | exact trivial | refine And.intro rfl ?_) (hnext _ _ hX1 m1 (OKG_image hG) hSg)
set_option maxRecDepth 20000 in
theorem law_24 {σ : ab_S} {G : GS} {i L : Nat} (hX : HX σ 1 G) (hM : HM σ 260 G) (hG : OKG G) (hS : SC σ L) (hi : i + 4 < L) (hL : L ≤ 2560) (kx : kd_ 1 8 8) (km : kd_ 260 9 37) (hnext : ∀ (τ : ab_S) (G2 : GS), HX τ 1 G2 → HM τ 260 G2 → OKG G2 → SC τ L → R2 YL_law 16 τ 841 [some (rf 0), some (rf 1), some (rf 260), some (iv i)] [] QL) : R2 YL_law 16 σ 795 [some (rf 0), some (rf 1), some (rf 260), some (iv i)] [] QL := by
  obtain ⟨v1, hv1⟩ : ∃ v, σ 0 ((i : Int) + 1) = v := ⟨_, rfl⟩
  have hr1 := hS.2 ((i : Int) + 1)
  rw [hv1] at hr1
  have hS1 := hS.1
  refine r_aload_n (Y := YL_law) dL_law_795 rfl ?_
  refine r_aload_n (Y := YL_law) dL_law_796 rfl ?_
  refine r_iload_n (Y := YL_law) dL_law_797 rfl ?_
  refine r_iconst (Y := YL_law) dL_law_798 ?_
  refine r_iadd (Y := YL_law) dL_law_799 ?_
  refine r_sV (Y := YL_law) (v := v1) dL_law_800 hv1 (by omega) (by omega) (by omega) ?_
  refine r_iV1I (Y := YL_law) mv_L_115 dL_law_801 (c_X8_restore kx hX hG hr1.1 hr1.2) (by assumption) (fun σ801 z801 h801 => ?_)
  obtain ⟨rfl, x1, f1⟩ := h801
  have hM1 := hM.fx f1
  have hSf := hS.fx f1
  have hS1f := hSf.1
  refine r_aload_n (Y := YL_law) dL_law_804 rfl ?_
  refine r_aload_n (Y := YL_law) dL_law_805 rfl ?_
  refine r_iload_n (Y := YL_law) dL_law_806 rfl ?_
  refine r_iconst (Y := YL_law) dL_law_807 ?_
  refine r_iadd (Y := YL_law) dL_law_808 ?_
  refine r_sV (Y := YL_law) (v := v1) dL_law_809 (by rw [f1 _ _ (by omega)]; exact hv1) (by omega) (by omega) (by omega) ?_
  refine r_iV1I (Y := YL_law) mv_L_118 dL_law_810 (c_X9_restore km hM1 hG hr1.1 hr1.2) (by assumption) (fun σ810 z810 h810 => ?_)
  obtain ⟨rfl, m1, f2⟩ := h810
  have hX1 := x1.fy f2
  have hSg := hSf.fy f2
  refine r_eqj (Y := YL_law) (tgt := 841) dL_law_813 (by decide) ?_
  exact R2.weak (by repeat first | exact trivial | refine And.intro rfl ?_) (hnext _ _ hX1 m1 (OKG_restore hG) hSg)
set_option maxRecDepth 20000 in
theorem law_25 {σ : ab_S} {G : GS} {i L : Nat} (hX : HX σ 1 G) (hM : HM σ 260 G) (hG : OKG G) (hS : SC σ L) (hi : i + 4 < L) (hL : L ≤ 2560) (kx : kd_ 1 8 8) (km : kd_ 260 9 37) (hnext : ∀ (τ : ab_S) (G2 : GS), HX τ 1 G2 → HM τ 260 G2 → OKG G2 → SC τ L → R2 YL_law 16 τ 841 [some (rf 0), some (rf 1), some (rf 260), some (iv i)] [] QL) : R2 YL_law 16 σ 818 [some (rf 0), some (rf 1), some (rf 260), some (iv i)] [] QL := by
  obtain ⟨v1, hv1⟩ : ∃ v, σ 0 ((i : Int) + 1) = v := ⟨_, rfl⟩
  have hr1 := hS.2 ((i : Int) + 1)
  rw [hv1] at hr1
  have hS1 := hS.1
  refine r_aload_n (Y := YL_law) dL_law_818 rfl ?_
  refine r_aload_n (Y := YL_law) dL_law_819 rfl ?_
  refine r_iload_n (Y := YL_law) dL_law_820 rfl ?_
  refine r_iconst (Y := YL_law) dL_law_821 ?_
  refine r_iadd (Y := YL_law) dL_law_822 ?_
  refine r_sV (Y := YL_law) (v := v1) dL_law_823 hv1 (by omega) (by omega) (by omega) ?_
  refine r_iV1I (Y := YL_law) mv_L_119 dL_law_824 (c_X8_told kx hX hG hr1.1 hr1.2) (by assumption) (fun σ824 z824 h824 => ?_)
  obtain ⟨rfl, x1, f1⟩ := h824
  have hM1 := hM.fx f1
  have hSf := hS.fx f1
  have hS1f := hSf.1
  refine r_aload_n (Y := YL_law) dL_law_827 rfl ?_
  refine r_aload_n (Y := YL_law) dL_law_828 rfl ?_
  refine r_iload_n (Y := YL_law) dL_law_829 rfl ?_
  refine r_iconst (Y := YL_law) dL_law_830 ?_
  refine r_iadd (Y := YL_law) dL_law_831 ?_
  refine r_sV (Y := YL_law) (v := v1) dL_law_832 (by rw [f1 _ _ (by omega)]; exact hv1) (by omega) (by omega) (by omega) ?_
  refine r_iV1I (Y := YL_law) mv_L_122 dL_law_833 (c_X9_told km hM1 hG hr1.1 hr1.2) (by assumption) (fun σ833 z833 h833 => ?_)
  obtain ⟨rfl, m1, f2⟩ := h833
  have hX1 := x1.fy f2
  have hSg := hSf.fy f2
  refine r_eqj (Y := YL_law) (tgt := 841) dL_law_836 (by decide) ?_
  exact R2.weak (by repeat first | exact trivial | refine And.intro rfl ?_) (hnext _ _ hX1 m1 ((by rw [OKG_told]; exact hG)) hSg)
