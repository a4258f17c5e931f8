theorem ab_iconst {Y : ab_Y} {d k n : Nat} {M : ab_M} {pc : Nat} {ls : List (Option Value)} {st : List Value} {Q : ab_M → Option Value → Prop} {z : Int} (hd : decode Y.2.1 pc = .ok (.iconst z, 1))  (kk : ab_Run Y d k n M (pc + 1) ls (.int (Int32.ofInt z) :: st) Q) : ab_Run Y d k n M pc ls (st) Q := by
  intro p l e R s m args below meth c D dA bs b tc ts H locs cells slots arr Z hC hH hS hL hr
  exact lv_iconst hC.1.1 hC.1.2.1 hd rfl (kk hC hH hS hL hr)
theorem ab_bipush {Y : ab_Y} {d k n : Nat} {M : ab_M} {pc : Nat} {ls : List (Option Value)} {st : List Value} {Q : ab_M → Option Value → Prop} {z : Int} {v : Int32} (hd : decode Y.2.1 pc = .ok (.bipush z, 2)) (hv : (Int8.ofInt z).toInt32 = v) (kk : ab_Run Y d k n M (pc + 2) ls (.int v :: st) Q) : ab_Run Y d k n M pc ls (st) Q := by
  intro p l e R s m args below meth c D dA bs b tc ts H locs cells slots arr Z hC hH hS hL hr
  exact lv_bipush hC.1.1 hC.1.2.1 hd hv (kk hC hH hS hL hr)
theorem ab_sipush {Y : ab_Y} {d k n : Nat} {M : ab_M} {pc : Nat} {ls : List (Option Value)} {st : List Value} {Q : ab_M → Option Value → Prop} {z : Int} {v : Int32} (hd : decode Y.2.1 pc = .ok (.sipush z, 3)) (hv : (Int16.ofInt z).toInt32 = v) (kk : ab_Run Y d k n M (pc + 3) ls (.int v :: st) Q) : ab_Run Y d k n M pc ls (st) Q := by
  intro p l e R s m args below meth c D dA bs b tc ts H locs cells slots arr Z hC hH hS hL hr
  exact lv_sipush hC.1.1 hC.1.2.1 hd hv (kk hC hH hS hL hr)
theorem ab_lconst {Y : ab_Y} {d k n : Nat} {M : ab_M} {pc : Nat} {ls : List (Option Value)} {st : List Value} {Q : ab_M → Option Value → Prop} {z : Fin 2} {v : Int64} (hd : decode Y.2.1 pc = .ok (.lconst z, 1)) (hv : Int64.ofNat (z : Nat) = v) (kk : ab_Run Y d k n M (pc + 1) ls (.long v :: st) Q) : ab_Run Y d k n M pc ls (st) Q := by
  intro p l e R s m args below meth c D dA bs b tc ts H locs cells slots arr Z hC hH hS hL hr
  exact lv_lconst hC.1.1 hC.1.2.1 hd hv (kk hC hH hS hL hr)
theorem ab_iadd {Y : ab_Y} {d k n : Nat} {M : ab_M} {pc : Nat} {ls : List (Option Value)} {st : List Value} {Q : ab_M → Option Value → Prop} {x y : Int32} (hd : decode Y.2.1 pc = .ok (.iadd, 1))  (kk : ab_Run Y d k n M (pc + 1) ls (.int (x + y) :: st) Q) : ab_Run Y d k n M pc ls (.int y :: .int x :: st) Q := by
  intro p l e R s m args below meth c D dA bs b tc ts H locs cells slots arr Z hC hH hS hL hr
  exact lv_iadd hC.1.1 hC.1.2.1 hd  (kk hC hH hS hL hr)
theorem ab_isub {Y : ab_Y} {d k n : Nat} {M : ab_M} {pc : Nat} {ls : List (Option Value)} {st : List Value} {Q : ab_M → Option Value → Prop} {x y : Int32} (hd : decode Y.2.1 pc = .ok (.isub, 1))  (kk : ab_Run Y d k n M (pc + 1) ls (.int (x - y) :: st) Q) : ab_Run Y d k n M pc ls (.int y :: .int x :: st) Q := by
  intro p l e R s m args below meth c D dA bs b tc ts H locs cells slots arr Z hC hH hS hL hr
  exact lv_isub hC.1.1 hC.1.2.1 hd  (kk hC hH hS hL hr)
theorem ab_imul {Y : ab_Y} {d k n : Nat} {M : ab_M} {pc : Nat} {ls : List (Option Value)} {st : List Value} {Q : ab_M → Option Value → Prop} {x y : Int32} (hd : decode Y.2.1 pc = .ok (.imul, 1))  (kk : ab_Run Y d k n M (pc + 1) ls (.int (x * y) :: st) Q) : ab_Run Y d k n M pc ls (.int y :: .int x :: st) Q := by
  intro p l e R s m args below meth c D dA bs b tc ts H locs cells slots arr Z hC hH hS hL hr
  exact lv_imul hC.1.1 hC.1.2.1 hd  (kk hC hH hS hL hr)
theorem ab_iand {Y : ab_Y} {d k n : Nat} {M : ab_M} {pc : Nat} {ls : List (Option Value)} {st : List Value} {Q : ab_M → Option Value → Prop} {x y : Int32} (hd : decode Y.2.1 pc = .ok (.iand, 1))  (kk : ab_Run Y d k n M (pc + 1) ls (.int (x &&& y) :: st) Q) : ab_Run Y d k n M pc ls (.int y :: .int x :: st) Q := by
  intro p l e R s m args below meth c D dA bs b tc ts H locs cells slots arr Z hC hH hS hL hr
  exact lv_iand hC.1.1 hC.1.2.1 hd  (kk hC hH hS hL hr)
theorem ab_ior {Y : ab_Y} {d k n : Nat} {M : ab_M} {pc : Nat} {ls : List (Option Value)} {st : List Value} {Q : ab_M → Option Value → Prop} {x y : Int32} (hd : decode Y.2.1 pc = .ok (.ior, 1))  (kk : ab_Run Y d k n M (pc + 1) ls (.int (x ||| y) :: st) Q) : ab_Run Y d k n M pc ls (.int y :: .int x :: st) Q := by
  intro p l e R s m args below meth c D dA bs b tc ts H locs cells slots arr Z hC hH hS hL hr
  exact lv_ior hC.1.1 hC.1.2.1 hd  (kk hC hH hS hL hr)
theorem ab_ixor {Y : ab_Y} {d k n : Nat} {M : ab_M} {pc : Nat} {ls : List (Option Value)} {st : List Value} {Q : ab_M → Option Value → Prop} {x y : Int32} (hd : decode Y.2.1 pc = .ok (.ixor, 1))  (kk : ab_Run Y d k n M (pc + 1) ls (.int (x ^^^ y) :: st) Q) : ab_Run Y d k n M pc ls (.int y :: .int x :: st) Q := by
  intro p l e R s m args below meth c D dA bs b tc ts H locs cells slots arr Z hC hH hS hL hr
  exact lv_ixor hC.1.1 hC.1.2.1 hd  (kk hC hH hS hL hr)
theorem ab_idiv {Y : ab_Y} {d k n : Nat} {M : ab_M} {pc : Nat} {ls : List (Option Value)} {st : List Value} {Q : ab_M → Option Value → Prop} {x y : Int32} (hd : decode Y.2.1 pc = .ok (.idiv, 1)) (hne : ¬ y = 0) (kk : ab_Run Y d k n M (pc + 1) ls (.int (x / y) :: st) Q) : ab_Run Y d k n M pc ls (.int y :: .int x :: st) Q := by
  intro p l e R s m args below meth c D dA bs b tc ts H locs cells slots arr Z hC hH hS hL hr
  exact lv_idiv hC.1.1 hC.1.2.1 hd hne (kk hC hH hS hL hr)
theorem ab_irem {Y : ab_Y} {d k n : Nat} {M : ab_M} {pc : Nat} {ls : List (Option Value)} {st : List Value} {Q : ab_M → Option Value → Prop} {x y : Int32} (hd : decode Y.2.1 pc = .ok (.irem, 1)) (hne : ¬ y = 0) (kk : ab_Run Y d k n M (pc + 1) ls (.int (x - x / y * y) :: st) Q) : ab_Run Y d k n M pc ls (.int y :: .int x :: st) Q := by
  intro p l e R s m args below meth c D dA bs b tc ts H locs cells slots arr Z hC hH hS hL hr
  exact lv_irem hC.1.1 hC.1.2.1 hd hne (kk hC hH hS hL hr)
theorem ab_ishl {Y : ab_Y} {d k n : Nat} {M : ab_M} {pc : Nat} {ls : List (Option Value)} {st : List Value} {Q : ab_M → Option Value → Prop} {x y : Int32} (hd : decode Y.2.1 pc = .ok (.ishl, 1))  (kk : ab_Run Y d k n M (pc + 1) ls (.int (x <<< (y &&& 31)) :: st) Q) : ab_Run Y d k n M pc ls (.int y :: .int x :: st) Q := by
  intro p l e R s m args below meth c D dA bs b tc ts H locs cells slots arr Z hC hH hS hL hr
  exact lv_ishl hC.1.1 hC.1.2.1 hd  (kk hC hH hS hL hr)
theorem ab_ishr {Y : ab_Y} {d k n : Nat} {M : ab_M} {pc : Nat} {ls : List (Option Value)} {st : List Value} {Q : ab_M → Option Value → Prop} {x y : Int32} (hd : decode Y.2.1 pc = .ok (.ishr, 1))  (kk : ab_Run Y d k n M (pc + 1) ls (.int (x >>> (y &&& 31)) :: st) Q) : ab_Run Y d k n M pc ls (.int y :: .int x :: st) Q := by
  intro p l e R s m args below meth c D dA bs b tc ts H locs cells slots arr Z hC hH hS hL hr
  exact lv_ishr hC.1.1 hC.1.2.1 hd  (kk hC hH hS hL hr)
theorem ab_iushr {Y : ab_Y} {d k n : Nat} {M : ab_M} {pc : Nat} {ls : List (Option Value)} {st : List Value} {Q : ab_M → Option Value → Prop} {x y v : Int32} (hd : decode Y.2.1 pc = .ok (.iushr, 1)) (hv : (x.toUInt32 >>> (y.toUInt32 &&& Int32.toUInt32 31)).toInt32 = v) (kk : ab_Run Y d k n M (pc + 1) ls (.int v :: st) Q) : ab_Run Y d k n M pc ls (.int y :: .int x :: st) Q := by
  intro p l e R s m args below meth c D dA bs b tc ts H locs cells slots arr Z hC hH hS hL hr
  exact lv_iushr hC.1.1 hC.1.2.1 hd hv (kk hC hH hS hL hr)
theorem ab_ladd {Y : ab_Y} {d k n : Nat} {M : ab_M} {pc : Nat} {ls : List (Option Value)} {st : List Value} {Q : ab_M → Option Value → Prop} {x y : Int64} (hd : decode Y.2.1 pc = .ok (.ladd, 1))  (kk : ab_Run Y d k n M (pc + 1) ls (.long (x + y) :: st) Q) : ab_Run Y d k n M pc ls (.long y :: .long x :: st) Q := by
  intro p l e R s m args below meth c D dA bs b tc ts H locs cells slots arr Z hC hH hS hL hr
  exact lv_ladd hC.1.1 hC.1.2.1 hd  (kk hC hH hS hL hr)
theorem ab_lmul {Y : ab_Y} {d k n : Nat} {M : ab_M} {pc : Nat} {ls : List (Option Value)} {st : List Value} {Q : ab_M → Option Value → Prop} {x y : Int64} (hd : decode Y.2.1 pc = .ok (.lmul, 1))  (kk : ab_Run Y d k n M (pc + 1) ls (.long (x * y) :: st) Q) : ab_Run Y d k n M pc ls (.long y :: .long x :: st) Q := by
  intro p l e R s m args below meth c D dA bs b tc ts H locs cells slots arr Z hC hH hS hL hr
  exact lv_lmul hC.1.1 hC.1.2.1 hd  (kk hC hH hS hL hr)
theorem ab_ldiv {Y : ab_Y} {d k n : Nat} {M : ab_M} {pc : Nat} {ls : List (Option Value)} {st : List Value} {Q : ab_M → Option Value → Prop} {x y : Int64} (hd : decode Y.2.1 pc = .ok (.ldiv, 1)) (hne : ¬ y = 0) (kk : ab_Run Y d k n M (pc + 1) ls (.long (x / y) :: st) Q) : ab_Run Y d k n M pc ls (.long y :: .long x :: st) Q := by
  intro p l e R s m args below meth c D dA bs b tc ts H locs cells slots arr Z hC hH hS hL hr
  exact lv_ldiv hC.1.1 hC.1.2.1 hd hne (kk hC hH hS hL hr)
theorem ab_lrem {Y : ab_Y} {d k n : Nat} {M : ab_M} {pc : Nat} {ls : List (Option Value)} {st : List Value} {Q : ab_M → Option Value → Prop} {x y : Int64} (hd : decode Y.2.1 pc = .ok (.lrem, 1)) (hne : ¬ y = 0) (kk : ab_Run Y d k n M (pc + 1) ls (.long (x - x / y * y) :: st) Q) : ab_Run Y d k n M pc ls (.long y :: .long x :: st) Q := by
  intro p l e R s m args below meth c D dA bs b tc ts H locs cells slots arr Z hC hH hS hL hr
  exact lv_lrem hC.1.1 hC.1.2.1 hd hne (kk hC hH hS hL hr)
theorem ab_i2l {Y : ab_Y} {d k n : Nat} {M : ab_M} {pc : Nat} {ls : List (Option Value)} {st : List Value} {Q : ab_M → Option Value → Prop} {x : Int32} {v : Int64} (hd : decode Y.2.1 pc = .ok (.i2l, 1)) (hv : x.toInt64 = v) (kk : ab_Run Y d k n M (pc + 1) ls (.long v :: st) Q) : ab_Run Y d k n M pc ls (.int x :: st) Q := by
  intro p l e R s m args below meth c D dA bs b tc ts H locs cells slots arr Z hC hH hS hL hr
  exact lv_i2l hC.1.1 hC.1.2.1 hd hv (kk hC hH hS hL hr)
theorem ab_l2i {Y : ab_Y} {d k n : Nat} {M : ab_M} {pc : Nat} {ls : List (Option Value)} {st : List Value} {Q : ab_M → Option Value → Prop} {x : Int64} {v : Int32} (hd : decode Y.2.1 pc = .ok (.l2i, 1)) (hv : x.toInt32 = v) (kk : ab_Run Y d k n M (pc + 1) ls (.int v :: st) Q) : ab_Run Y d k n M pc ls (.long x :: st) Q := by
  intro p l e R s m args below meth c D dA bs b tc ts H locs cells slots arr Z hC hH hS hL hr
  exact lv_l2i hC.1.1 hC.1.2.1 hd hv (kk hC hH hS hL hr)
theorem ab_lcmp {Y : ab_Y} {d k n : Nat} {M : ab_M} {pc : Nat} {ls : List (Option Value)} {st : List Value} {Q : ab_M → Option Value → Prop} {x y : Int64} (hd : decode Y.2.1 pc = .ok (.lcmp, 1))  (kk : ab_Run Y d k n M (pc + 1) ls (.int (lg_cmp x y) :: st) Q) : ab_Run Y d k n M pc ls (.long y :: .long x :: st) Q := by
  intro p l e R s m args below meth c D dA bs b tc ts H locs cells slots arr Z hC hH hS hL hr
  exact W.lcmp hC.1.1 hC.1.2.1 hd  (kk hC hH hS hL hr)
theorem ab_dup {Y : ab_Y} {d k n : Nat} {M : ab_M} {pc : Nat} {ls : List (Option Value)} {st : List Value} {Q : ab_M → Option Value → Prop} {v : Value} (hd : decode Y.2.1 pc = .ok (.dup, 1)) (hv : v.category = 1) (kk : ab_Run Y d k n M (pc + 1) ls (v :: v :: st) Q) : ab_Run Y d k n M pc ls (v :: st) Q := by
  intro p l e R s m args below meth c D dA bs b tc ts H locs cells slots arr Z hC hH hS hL hr
  exact lv_dup hC.1.1 hC.1.2.1 hd (by rw [ab_v_cat]; exact hv) (kk hC hH hS hL hr)
theorem ab_pop {Y : ab_Y} {d k n : Nat} {M : ab_M} {pc : Nat} {ls : List (Option Value)} {st : List Value} {Q : ab_M → Option Value → Prop} {v : Value} (hd : decode Y.2.1 pc = .ok (.pop, 1)) (hv : v.category = 1) (kk : ab_Run Y d k n M (pc + 1) ls (st) Q) : ab_Run Y d k n M pc ls (v :: st) Q := by
  intro p l e R s m args below meth c D dA bs b tc ts H locs cells slots arr Z hC hH hS hL hr
  exact lv_pop hC.1.1 hC.1.2.1 hd (by rw [ab_v_cat]; exact hv) (kk hC hH hS hL hr)
theorem ab_dup2 {Y : ab_Y} {d k n : Nat} {M : ab_M} {pc : Nat} {ls : List (Option Value)} {st : List Value} {Q : ab_M → Option Value → Prop} {v w : Value} (hd : decode Y.2.1 pc = .ok (.dup2, 1)) (hv : v.category = 1) (hw : w.category = 1) (kk : ab_Run Y d k n M (pc + 1) ls (v :: w :: v :: w :: st) Q) : ab_Run Y d k n M pc ls (v :: w :: st) Q := by
  intro p l e R s m args below meth c D dA bs b tc ts H locs cells slots arr Z hC hH hS hL hr
  exact lv_dup2_11 hC.1.1 hC.1.2.1 hd (by rw [ab_v_cat]; exact hv) (by rw [ab_v_cat]; exact hw) (kk hC hH hS hL hr)
theorem ab_iload {Y : ab_Y} {d k n : Nat} {M : ab_M} {pc : Nat} {ls : List (Option Value)} {st : List Value} {Q : ab_M → Option Value → Prop} {i : Nat} {x : Int32} (hd : decode Y.2.1 pc = .ok (.iload i, 2)) (hl : ls[i]? = some (some (.int x))) (kk : ab_Run Y d k n M (pc + 2) ls (.int x :: st) Q) : ab_Run Y d k n M pc ls (st) Q := by
  intro p l e R s m args below meth c D dA bs b tc ts H locs cells slots arr Z hC hH hS hL hr
  exact lv_iload hC.1.1 hC.1.2.1 hd (hL.2.2 i _ hl) (kk hC hH hS hL hr)
theorem ab_iload_n {Y : ab_Y} {d k n : Nat} {M : ab_M} {pc : Nat} {ls : List (Option Value)} {st : List Value} {Q : ab_M → Option Value → Prop} {q : Fin 4} {x : Int32} (hd : decode Y.2.1 pc = .ok (.iload_n q, 1)) (hl : ls[(q : Nat)]? = some (some (.int x))) (kk : ab_Run Y d k n M (pc + 1) ls (.int x :: st) Q) : ab_Run Y d k n M pc ls (st) Q := by
  intro p l e R s m args below meth c D dA bs b tc ts H locs cells slots arr Z hC hH hS hL hr
  exact lv_iload_n hC.1.1 hC.1.2.1 hd rfl (hL.2.2 _ _ hl) (kk hC hH hS hL hr)
theorem ab_lload {Y : ab_Y} {d k n : Nat} {M : ab_M} {pc : Nat} {ls : List (Option Value)} {st : List Value} {Q : ab_M → Option Value → Prop} {i : Nat} {x : Int64} (hd : decode Y.2.1 pc = .ok (.lload i, 2)) (hl : ls[i]? = some (some (.long x))) (kk : ab_Run Y d k n M (pc + 2) ls (.long x :: st) Q) : ab_Run Y d k n M pc ls (st) Q := by
  intro p l e R s m args below meth c D dA bs b tc ts H locs cells slots arr Z hC hH hS hL hr
  exact lv_lload hC.1.1 hC.1.2.1 hd (hL.2.2 i _ hl) (kk hC hH hS hL hr)
theorem ab_lload_n {Y : ab_Y} {d k n : Nat} {M : ab_M} {pc : Nat} {ls : List (Option Value)} {st : List Value} {Q : ab_M → Option Value → Prop} {q : Fin 4} {x : Int64} (hd : decode Y.2.1 pc = .ok (.lload_n q, 1)) (hl : ls[(q : Nat)]? = some (some (.long x))) (kk : ab_Run Y d k n M (pc + 1) ls (.long x :: st) Q) : ab_Run Y d k n M pc ls (st) Q := by
  intro p l e R s m args below meth c D dA bs b tc ts H locs cells slots arr Z hC hH hS hL hr
  exact lv_lload_n hC.1.1 hC.1.2.1 hd rfl (hL.2.2 _ _ hl) (kk hC hH hS hL hr)
theorem ab_aload {Y : ab_Y} {d k n : Nat} {M : ab_M} {pc : Nat} {ls : List (Option Value)} {st : List Value} {Q : ab_M → Option Value → Prop} {i x : Nat} (hd : decode Y.2.1 pc = .ok (.aload i, 2)) (hl : ls[i]? = some (some (.ref x))) (kk : ab_Run Y d k n M (pc + 2) ls (.ref x :: st) Q) : ab_Run Y d k n M pc ls (st) Q := by
  intro p l e R s m args below meth c D dA bs b tc ts H locs cells slots arr Z hC hH hS hL hr
  exact lv_aload hC.1.1 hC.1.2.1 hd (hL.2.2 i _ hl) (kk hC hH hS hL hr)
theorem ab_aload_n {Y : ab_Y} {d k n : Nat} {M : ab_M} {pc : Nat} {ls : List (Option Value)} {st : List Value} {Q : ab_M → Option Value → Prop} {q : Fin 4} {x : Nat} (hd : decode Y.2.1 pc = .ok (.aload_n q, 1)) (hl : ls[(q : Nat)]? = some (some (.ref x))) (kk : ab_Run Y d k n M (pc + 1) ls (.ref x :: st) Q) : ab_Run Y d k n M pc ls (st) Q := by
  intro p l e R s m args below meth c D dA bs b tc ts H locs cells slots arr Z hC hH hS hL hr
  exact lv_aload_n hC.1.1 hC.1.2.1 hd rfl (hL.2.2 _ _ hl) (kk hC hH hS hL hr)
theorem ab_istore {Y : ab_Y} {d k n : Nat} {M : ab_M} {pc : Nat} {ls : List (Option Value)} {st : List Value} {Q : ab_M → Option Value → Prop} {i : Nat} {x : Int32} (hd : decode Y.2.1 pc = .ok (.istore i, 2)) (hn : i < Y.2.2.1) (kk : ab_Run Y d k n M (pc + 2) (ab_set ls i (.int x)) st Q) : ab_Run Y d k n M pc ls (.int x :: st) Q := by
  intro p l e R s m args below meth c D dA bs b tc ts H locs cells slots arr Z hC hH hS hL hr
  exact lv_istore hC.1.1 hC.1.2.1 hd  hL.has hn rfl (fun arr' h' => kk hC hH hS (ab_L.set (v := .int x) h') hr)
theorem ab_istore_n {Y : ab_Y} {d k n : Nat} {M : ab_M} {pc : Nat} {ls : List (Option Value)} {st : List Value} {Q : ab_M → Option Value → Prop} {q : Fin 4} {x : Int32} (hd : decode Y.2.1 pc = .ok (.istore_n q, 1)) (hn : (q : Nat) < Y.2.2.1) (kk : ab_Run Y d k n M (pc + 1) (ab_set ls (q : Nat) (.int x)) st Q) : ab_Run Y d k n M pc ls (.int x :: st) Q := by
  intro p l e R s m args below meth c D dA bs b tc ts H locs cells slots arr Z hC hH hS hL hr
  exact lv_istore_n hC.1.1 hC.1.2.1 hd rfl hL.has hn rfl (fun arr' h' => kk hC hH hS (ab_L.set (v := .int x) h') hr)
theorem ab_lstore {Y : ab_Y} {d k n : Nat} {M : ab_M} {pc : Nat} {ls : List (Option Value)} {st : List Value} {Q : ab_M → Option Value → Prop} {i : Nat} {x : Int64} (hd : decode Y.2.1 pc = .ok (.lstore i, 2)) (hn : i + 1 < Y.2.2.1) (kk : ab_Run Y d k n M (pc + 2) (ab_set2 ls i (.long x)) st Q) : ab_Run Y d k n M pc ls (.long x :: st) Q := by
  intro p l e R s m args below meth c D dA bs b tc ts H locs cells slots arr Z hC hH hS hL hr
  exact lv_lstore hC.1.1 hC.1.2.1 hd  hL.has hn rfl (fun arr' h' => kk hC hH hS (ab_L.set2 (v := .long x) h') hr)
theorem ab_lstore_n {Y : ab_Y} {d k n : Nat} {M : ab_M} {pc : Nat} {ls : List (Option Value)} {st : List Value} {Q : ab_M → Option Value → Prop} {q : Fin 4} {x : Int64} (hd : decode Y.2.1 pc = .ok (.lstore_n q, 1)) (hn : (q : Nat) + 1 < Y.2.2.1) (kk : ab_Run Y d k n M (pc + 1) (ab_set2 ls (q : Nat) (.long x)) st Q) : ab_Run Y d k n M pc ls (.long x :: st) Q := by
  intro p l e R s m args below meth c D dA bs b tc ts H locs cells slots arr Z hC hH hS hL hr
  exact lv_lstore_n hC.1.1 hC.1.2.1 hd rfl hL.has hn rfl (fun arr' h' => kk hC hH hS (ab_L.set2 (v := .long x) h') hr)
theorem ab_astore {Y : ab_Y} {d k n : Nat} {M : ab_M} {pc : Nat} {ls : List (Option Value)} {st : List Value} {Q : ab_M → Option Value → Prop} {i : Nat} {x : Nat} (hd : decode Y.2.1 pc = .ok (.astore i, 2)) (hn : i < Y.2.2.1) (kk : ab_Run Y d k n M (pc + 2) (ab_set ls i (.ref x)) st Q) : ab_Run Y d k n M pc ls (.ref x :: st) Q := by
  intro p l e R s m args below meth c D dA bs b tc ts H locs cells slots arr Z hC hH hS hL hr
  exact lv_astore hC.1.1 hC.1.2.1 hd  hL.has hn rfl (fun arr' h' => kk hC hH hS (ab_L.set (v := .ref x) h') hr)
theorem ab_astore_n {Y : ab_Y} {d k n : Nat} {M : ab_M} {pc : Nat} {ls : List (Option Value)} {st : List Value} {Q : ab_M → Option Value → Prop} {q : Fin 4} {x : Nat} (hd : decode Y.2.1 pc = .ok (.astore_n q, 1)) (hn : (q : Nat) < Y.2.2.1) (kk : ab_Run Y d k n M (pc + 1) (ab_set ls (q : Nat) (.ref x)) st Q) : ab_Run Y d k n M pc ls (.ref x :: st) Q := by
  intro p l e R s m args below meth c D dA bs b tc ts H locs cells slots arr Z hC hH hS hL hr
  exact lv_astore_n hC.1.1 hC.1.2.1 hd rfl hL.has hn rfl (fun arr' h' => kk hC hH hS (ab_L.set (v := .ref x) h') hr)
theorem ab_iinc {Y : ab_Y} {d k n : Nat} {M : ab_M} {pc : Nat} {ls : List (Option Value)} {st : List Value} {Q : ab_M → Option Value → Prop} {i : Nat} {z : Int} {x : Int32} (hd : decode Y.2.1 pc = .ok (.iinc i z, 3)) (hl : ls[i]? = some (some (.int x))) (hn : i < Y.2.2.1) (kk : ab_Run Y d k n M (pc + 3) (ab_set ls i (.int (x + Int32.ofInt z))) st Q) : ab_Run Y d k n M pc ls st Q := by
  intro p l e R s m args below meth c D dA bs b tc ts H locs cells slots arr Z hC hH hS hL hr
  obtain ⟨q, hq⟩ := List.getElem?_of_mem (ab_lv_mem (bs := bs) (b := b) (ls := ls) (q := (i, .int x)) |>.mpr ⟨.int x, hl, rfl⟩)
  exact lv_iinc hC.1.1 hC.1.2.1 hd hL.has hq rfl hn rfl (fun arr' h' => kk hC hH hS (ab_L.set (v := .int (x + Int32.ofInt z)) h') hr)
theorem ab_if_eq {Y : ab_Y} {d k n : Nat} {M : ab_M} {pc : Nat} {ls : List (Option Value)} {st : List Value} {Q : ab_M → Option Value → Prop} {x : Int32} {off : Int} {tgt : Nat} (hd : decode Y.2.1 pc = .ok (.ifCond .eq off, 3)) (ht : (pc : Int) + off = (tgt : Int)) (kt : x = 0 → ab_Run Y d k n M tgt ls st Q) (kf : ¬ x = 0 → ab_Run Y d k n M (pc + 3) ls st Q) : ab_Run Y d k n M pc ls (.int x :: st) Q := by
  intro p l e R s m args below meth c D dA bs b tc ts H locs cells slots arr Z hC hH hS hL hr
  exact lv_if_eq hC.1.1 hC.1.2.1 hd ht (fun h => kt h hC hH hS hL hr) (fun h => kf h hC hH hS hL hr)
theorem ab_icmp_eq {Y : ab_Y} {d k n : Nat} {M : ab_M} {pc : Nat} {ls : List (Option Value)} {st : List Value} {Q : ab_M → Option Value → Prop} {x y : Int32} {off : Int} {tgt : Nat} (hd : decode Y.2.1 pc = .ok (.if_icmp .eq off, 3)) (ht : (pc : Int) + off = (tgt : Int)) (kt : x = y → ab_Run Y d k n M tgt ls st Q) (kf : ¬ x = y → ab_Run Y d k n M (pc + 3) ls st Q) : ab_Run Y d k n M pc ls (.int y :: .int x :: st) Q := by
  intro p l e R s m args below meth c D dA bs b tc ts H locs cells slots arr Z hC hH hS hL hr
  exact lv_icmp_eq hC.1.1 hC.1.2.1 hd ht (fun h => kt h hC hH hS hL hr) (fun h => kf h hC hH hS hL hr)
theorem ab_if_ne {Y : ab_Y} {d k n : Nat} {M : ab_M} {pc : Nat} {ls : List (Option Value)} {st : List Value} {Q : ab_M → Option Value → Prop} {x : Int32} {off : Int} {tgt : Nat} (hd : decode Y.2.1 pc = .ok (.ifCond .ne off, 3)) (ht : (pc : Int) + off = (tgt : Int)) (kt : ¬ x = 0 → ab_Run Y d k n M tgt ls st Q) (kf : x = 0 → ab_Run Y d k n M (pc + 3) ls st Q) : ab_Run Y d k n M pc ls (.int x :: st) Q := by
  intro p l e R s m args below meth c D dA bs b tc ts H locs cells slots arr Z hC hH hS hL hr
  exact lv_if_ne hC.1.1 hC.1.2.1 hd ht (fun h => kt h hC hH hS hL hr) (fun h => kf h hC hH hS hL hr)
theorem ab_icmp_ne {Y : ab_Y} {d k n : Nat} {M : ab_M} {pc : Nat} {ls : List (Option Value)} {st : List Value} {Q : ab_M → Option Value → Prop} {x y : Int32} {off : Int} {tgt : Nat} (hd : decode Y.2.1 pc = .ok (.if_icmp .ne off, 3)) (ht : (pc : Int) + off = (tgt : Int)) (kt : ¬ x = y → ab_Run Y d k n M tgt ls st Q) (kf : x = y → ab_Run Y d k n M (pc + 3) ls st Q) : ab_Run Y d k n M pc ls (.int y :: .int x :: st) Q := by
  intro p l e R s m args below meth c D dA bs b tc ts H locs cells slots arr Z hC hH hS hL hr
  exact lv_icmp_ne hC.1.1 hC.1.2.1 hd ht (fun h => kt h hC hH hS hL hr) (fun h => kf h hC hH hS hL hr)
theorem ab_if_lt {Y : ab_Y} {d k n : Nat} {M : ab_M} {pc : Nat} {ls : List (Option Value)} {st : List Value} {Q : ab_M → Option Value → Prop} {x : Int32} {off : Int} {tgt : Nat} (hd : decode Y.2.1 pc = .ok (.ifCond .lt off, 3)) (ht : (pc : Int) + off = (tgt : Int)) (kt : x < 0 → ab_Run Y d k n M tgt ls st Q) (kf : ¬ x < 0 → ab_Run Y d k n M (pc + 3) ls st Q) : ab_Run Y d k n M pc ls (.int x :: st) Q := by
  intro p l e R s m args below meth c D dA bs b tc ts H locs cells slots arr Z hC hH hS hL hr
  exact lv_if_lt hC.1.1 hC.1.2.1 hd ht (fun h => kt h hC hH hS hL hr) (fun h => kf h hC hH hS hL hr)
theorem ab_icmp_lt {Y : ab_Y} {d k n : Nat} {M : ab_M} {pc : Nat} {ls : List (Option Value)} {st : List Value} {Q : ab_M → Option Value → Prop} {x y : Int32} {off : Int} {tgt : Nat} (hd : decode Y.2.1 pc = .ok (.if_icmp .lt off, 3)) (ht : (pc : Int) + off = (tgt : Int)) (kt : x < y → ab_Run Y d k n M tgt ls st Q) (kf : ¬ x < y → ab_Run Y d k n M (pc + 3) ls st Q) : ab_Run Y d k n M pc ls (.int y :: .int x :: st) Q := by
  intro p l e R s m args below meth c D dA bs b tc ts H locs cells slots arr Z hC hH hS hL hr
  exact lv_icmp_lt hC.1.1 hC.1.2.1 hd ht (fun h => kt h hC hH hS hL hr) (fun h => kf h hC hH hS hL hr)
theorem ab_if_ge {Y : ab_Y} {d k n : Nat} {M : ab_M} {pc : Nat} {ls : List (Option Value)} {st : List Value} {Q : ab_M → Option Value → Prop} {x : Int32} {off : Int} {tgt : Nat} (hd : decode Y.2.1 pc = .ok (.ifCond .ge off, 3)) (ht : (pc : Int) + off = (tgt : Int)) (kt : 0 ≤ x → ab_Run Y d k n M tgt ls st Q) (kf : ¬ 0 ≤ x → ab_Run Y d k n M (pc + 3) ls st Q) : ab_Run Y d k n M pc ls (.int x :: st) Q := by
  intro p l e R s m args below meth c D dA bs b tc ts H locs cells slots arr Z hC hH hS hL hr
  exact lv_if_ge hC.1.1 hC.1.2.1 hd ht (fun h => kt h hC hH hS hL hr) (fun h => kf h hC hH hS hL hr)
theorem ab_icmp_ge {Y : ab_Y} {d k n : Nat} {M : ab_M} {pc : Nat} {ls : List (Option Value)} {st : List Value} {Q : ab_M → Option Value → Prop} {x y : Int32} {off : Int} {tgt : Nat} (hd : decode Y.2.1 pc = .ok (.if_icmp .ge off, 3)) (ht : (pc : Int) + off = (tgt : Int)) (kt : y ≤ x → ab_Run Y d k n M tgt ls st Q) (kf : ¬ y ≤ x → ab_Run Y d k n M (pc + 3) ls st Q) : ab_Run Y d k n M pc ls (.int y :: .int x :: st) Q := by
  intro p l e R s m args below meth c D dA bs b tc ts H locs cells slots arr Z hC hH hS hL hr
  exact lv_icmp_ge hC.1.1 hC.1.2.1 hd ht (fun h => kt h hC hH hS hL hr) (fun h => kf h hC hH hS hL hr)
theorem ab_if_gt {Y : ab_Y} {d k n : Nat} {M : ab_M} {pc : Nat} {ls : List (Option Value)} {st : List Value} {Q : ab_M → Option Value → Prop} {x : Int32} {off : Int} {tgt : Nat} (hd : decode Y.2.1 pc = .ok (.ifCond .gt off, 3)) (ht : (pc : Int) + off = (tgt : Int)) (kt : 0 < x → ab_Run Y d k n M tgt ls st Q) (kf : ¬ 0 < x → ab_Run Y d k n M (pc + 3) ls st Q) : ab_Run Y d k n M pc ls (.int x :: st) Q := by
  intro p l e R s m args below meth c D dA bs b tc ts H locs cells slots arr Z hC hH hS hL hr
  exact lv_if_gt hC.1.1 hC.1.2.1 hd ht (fun h => kt h hC hH hS hL hr) (fun h => kf h hC hH hS hL hr)
theorem ab_icmp_gt {Y : ab_Y} {d k n : Nat} {M : ab_M} {pc : Nat} {ls : List (Option Value)} {st : List Value} {Q : ab_M → Option Value → Prop} {x y : Int32} {off : Int} {tgt : Nat} (hd : decode Y.2.1 pc = .ok (.if_icmp .gt off, 3)) (ht : (pc : Int) + off = (tgt : Int)) (kt : y < x → ab_Run Y d k n M tgt ls st Q) (kf : ¬ y < x → ab_Run Y d k n M (pc + 3) ls st Q) : ab_Run Y d k n M pc ls (.int y :: .int x :: st) Q := by
  intro p l e R s m args below meth c D dA bs b tc ts H locs cells slots arr Z hC hH hS hL hr
  exact lv_icmp_gt hC.1.1 hC.1.2.1 hd ht (fun h => kt h hC hH hS hL hr) (fun h => kf h hC hH hS hL hr)
theorem ab_if_le {Y : ab_Y} {d k n : Nat} {M : ab_M} {pc : Nat} {ls : List (Option Value)} {st : List Value} {Q : ab_M → Option Value → Prop} {x : Int32} {off : Int} {tgt : Nat} (hd : decode Y.2.1 pc = .ok (.ifCond .le off, 3)) (ht : (pc : Int) + off = (tgt : Int)) (kt : x ≤ 0 → ab_Run Y d k n M tgt ls st Q) (kf : ¬ x ≤ 0 → ab_Run Y d k n M (pc + 3) ls st Q) : ab_Run Y d k n M pc ls (.int x :: st) Q := by
  intro p l e R s m args below meth c D dA bs b tc ts H locs cells slots arr Z hC hH hS hL hr
  exact lv_if_le hC.1.1 hC.1.2.1 hd ht (fun h => kt h hC hH hS hL hr) (fun h => kf h hC hH hS hL hr)
theorem ab_icmp_le {Y : ab_Y} {d k n : Nat} {M : ab_M} {pc : Nat} {ls : List (Option Value)} {st : List Value} {Q : ab_M → Option Value → Prop} {x y : Int32} {off : Int} {tgt : Nat} (hd : decode Y.2.1 pc = .ok (.if_icmp .le off, 3)) (ht : (pc : Int) + off = (tgt : Int)) (kt : x ≤ y → ab_Run Y d k n M tgt ls st Q) (kf : ¬ x ≤ y → ab_Run Y d k n M (pc + 3) ls st Q) : ab_Run Y d k n M pc ls (.int y :: .int x :: st) Q := by
  intro p l e R s m args below meth c D dA bs b tc ts H locs cells slots arr Z hC hH hS hL hr
  exact lv_icmp_le hC.1.1 hC.1.2.1 hd ht (fun h => kt h hC hH hS hL hr) (fun h => kf h hC hH hS hL hr)
theorem ab_goto {Y : ab_Y} {d k n : Nat} {M : ab_M} {pc : Nat} {ls : List (Option Value)} {st : List Value} {Q : ab_M → Option Value → Prop} {off : Int} {tgt : Nat} (hd : decode Y.2.1 pc = .ok (.goto off, 3)) (ht : (pc : Int) + off = (tgt : Int)) (kk : ab_Run Y d k n M tgt ls st Q) : ab_Run Y d k n M pc ls st Q := by
  intro p l e R s m args below meth c D dA bs b tc ts H locs cells slots arr Z hC hH hS hL hr
  exact lv_goto hC.1.1 hC.1.2.1 hd ht (kk hC hH hS hL hr)
theorem ab_lookup {Y : ab_Y} {d k n : Nat} {M : ab_M} {pc : Nat} {ls : List (Option Value)} {st : List Value} {Q : ab_M → Option Value → Prop} {dflt : Int} {ps : Array (Int × Int)} {len : Nat} {x : Int32} {off : Int} {tgt : Nat} (hd : decode Y.2.1 pc = .ok (.lookupswitch dflt ps, len)) (hp : (ps.toList.zip (ps.toList.drop 1)).all (fun (a, next) => a.1 < next.1) = true) (ho : Op.lookupswitch.offset ps.toList dflt x.toInt = off) (ht : (pc : Int) + off = (tgt : Int)) (kk : ab_Run Y d k n M tgt ls st Q) : ab_Run Y d k n M pc ls (.int x :: st) Q := by
  intro p l e R s m args below meth c D dA bs b tc ts H locs cells slots arr Z hC hH hS hL hr
  exact lv_lookup hC.1.1 hC.1.2.1 hd hp ho ht (kk hC hH hS hL hr)
theorem ab_tableOut {Y : ab_Y} {d k n : Nat} {M : ab_M} {pc : Nat} {ls : List (Option Value)} {st : List Value} {Q : ab_M → Option Value → Prop} {dflt lo hi : Int} {offs : Array Int} {len : Nat} {x : Int32} {tgt : Nat} (hd : decode Y.2.1 pc = .ok (.tableswitch dflt lo hi offs, len)) (h : x.toInt < lo ∨ hi < x.toInt) (ht : (pc : Int) + dflt = (tgt : Int)) (kk : ab_Run Y d k n M tgt ls st Q) : ab_Run Y d k n M pc ls (.int x :: st) Q := by
  intro p l e R s m args below meth c D dA bs b tc ts H locs cells slots arr Z hC hH hS hL hr
  exact lv_tableOut hC.1.1 hC.1.2.1 hd h ht (kk hC hH hS hL hr)
theorem ab_tableIn {Y : ab_Y} {d k n : Nat} {M : ab_M} {pc : Nat} {ls : List (Option Value)} {st : List Value} {Q : ab_M → Option Value → Prop} {dflt lo hi : Int} {offs : Array Int} {len : Nat} {x : Int32} {off : Int} {tgt : Nat} (hd : decode Y.2.1 pc = .ok (.tableswitch dflt lo hi offs, len)) (h1 : ¬ x.toInt < lo) (h2 : ¬ hi < x.toInt) (ho : offs[(x.toInt - lo).toNat]? = some off) (ht : (pc : Int) + off = (tgt : Int)) (kk : ab_Run Y d k n M tgt ls st Q) : ab_Run Y d k n M pc ls (.int x :: st) Q := by
  intro p l e R s m args below meth c D dA bs b tc ts H locs cells slots arr Z hC hH hS hL hr
  exact lv_tableIn hC.1.1 hC.1.2.1 hd h1 h2 ho ht (kk hC hH hS hL hr)
theorem ab_ldc {Y : ab_Y} {d k n : Nat} {M : ab_M} {pc : Nat} {ls : List (Option Value)} {st : List Value} {Q : ab_M → Option Value → Prop} {i : Nat} {v : Int32} (hw : Cond.constant Y.1.cls i v ∈ ab_gw) (hd : decode Y.2.1 pc = .ok (.ldc i, 2)) (kk : ab_Run Y d k n M (pc + 2) ls (.int v :: st) Q) : ab_Run Y d k n M pc ls st Q := by
  intro p l e R s m args below meth c D dA bs b tc ts H locs cells slots arr Z hC hH hS hL hr
  exact lv_ldc hC.1.1 hC.1.2.1 hC.1.2.2.2.1 (hC.1.2.2.2.2 _ hw) hd (kk hC hH hS hL hr)
theorem ab_ldcw {Y : ab_Y} {d k n : Nat} {M : ab_M} {pc : Nat} {ls : List (Option Value)} {st : List Value} {Q : ab_M → Option Value → Prop} {i : Nat} {v : Int32} (hw : Cond.constant Y.1.cls i v ∈ ab_gw) (hd : decode Y.2.1 pc = .ok (.ldc_w i, 3)) (kk : ab_Run Y d k n M (pc + 3) ls (.int v :: st) Q) : ab_Run Y d k n M pc ls st Q := by
  intro p l e R s m args below meth c D dA bs b tc ts H locs cells slots arr Z hC hH hS hL hr
  exact lv_ldcw hC.1.1 hC.1.2.1 hC.1.2.2.2.1 (hC.1.2.2.2.2 _ hw) hd (kk hC hH hS hL hr)
theorem ab_ldc2 {Y : ab_Y} {d k n : Nat} {M : ab_M} {pc : Nat} {ls : List (Option Value)} {st : List Value} {Q : ab_M → Option Value → Prop} {i : Nat} {v : Int64} (hw : Cond.constantLong Y.1.cls i v ∈ ab_gw) (hd : decode Y.2.1 pc = .ok (.ldc2_w i, 3)) (kk : ab_Run Y d k n M (pc + 3) ls (.long v :: st) Q) : ab_Run Y d k n M pc ls st Q := by
  intro p l e R s m args below meth c D dA bs b tc ts H locs cells slots arr Z hC hH hS hL hr
  exact lv_ldc2 hC.1.1 hC.1.2.1 hC.1.2.2.2.1 (hC.1.2.2.2.2 _ hw) hd (kk hC hH hS hL hr)
theorem ab_ireturn {Y : ab_Y} {d k n : Nat} {M : ab_M} {pc : Nat} {ls : List (Option Value)} {st : List Value} {Q : ab_M → Option Value → Prop} {x : Int32} {ty : FieldType} (hd : decode Y.2.1 pc = .ok (.ireturn, 1)) (hy : Y.2.2.2 = some ty) (hn : narrow ty (.int x) = .int x) (hq : Q M (some (.int x))) : ab_Run Y d k n M pc ls [.int x] Q := by
  intro p l e R s m args below meth c D dA bs b tc ts H locs cells slots arr Z hC hH hS hL hr
  exact W.widen (by have := hC.2.2.1; omega) (by have := hC.2.2.1; omega) (hr M (some (.int x)) H locs pc arr ⟨hd, ty, hy, hn⟩ hH hS hq)
theorem ab_lreturn {Y : ab_Y} {d k n : Nat} {M : ab_M} {pc : Nat} {ls : List (Option Value)} {st : List Value} {Q : ab_M → Option Value → Prop} {x : Int64} (hd : decode Y.2.1 pc = .ok (.lreturn, 1)) (hy : Y.2.2.2 = some .long) (hq : Q M (some (.long x))) : ab_Run Y d k n M pc ls [.long x] Q := by
  intro p l e R s m args below meth c D dA bs b tc ts H locs cells slots arr Z hC hH hS hL hr
  exact W.widen (by have := hC.2.2.1; omega) (by have := hC.2.2.1; omega) (hr M (some (.long x)) H locs pc arr ⟨hd, hy⟩ hH hS hq)
theorem ab_return {Y : ab_Y} {d k n : Nat} {M : ab_M} {pc : Nat} {ls : List (Option Value)} {st : List Value} {Q : ab_M → Option Value → Prop} (hd : decode Y.2.1 pc = .ok (.return_, 1)) (hy : Y.2.2.2 = none) (hq : Q M none) : ab_Run Y d k n M pc ls [] Q := by
  intro p l e R s m args below meth c D dA bs b tc ts H locs cells slots arr Z hC hH hS hL hr
  exact W.widen (by have := hC.2.2.1; omega) (by have := hC.2.2.1; omega) (hr M none H locs pc arr ⟨hd, hy⟩ hH hS hq)
