/-! ===== one instruction, one row, over Go ===== -/
section OkRows
variable {g : GG} {M : MM} {pc : Nat} {lo lo' : List (Option Value)} {st : List Value} {h : Hp} {b : Nat × Nat} {Post : Option Value → Hp → Prop}
/-- fewer known locals -/
theorem Go.forget (k : Go g M pc lo' st h b Post) (hs : ∀ (i : Nat) (v : Value), lo'[i]? = some (some v) → lo[i]? = some (some v)) : Go g M pc lo st h b Post :=
  fun p e s m args below meth c C Q hQ H locs cells slots ls hW hS hl h1 h2 hz => k p e s m args below meth c C Q hQ H locs cells slots ls hW hS (lv_mono hl fun q hq => by obtain ⟨v, e1, e2⟩ := mem_asc.mp hq; exact mem_asc.mpr ⟨v, hs _ _ e1, e2⟩) h1 h2 hz
theorem ok_iconst {n : Int} {v : Int32} (hd : decode (Mc M) pc = .ok (.iconst n, 1)) (hv : Int32.ofInt n = v) (k : Go g M (pc + 1) lo (.int v :: st) h b Post) : Go g M pc lo st h b Post := by
  intro p e s m args below meth c C Q hQ H locs cells slots ls hW hS hl h1 h2 hz
  exact lv_iconst C.2.1 C.2.2.1 hd hv (k p e s m args below meth c C Q hQ H locs cells slots ls hW hS hl h1 h2 hz)
theorem ok_bipush {n : Int} {v : Int32} (hd : decode (Mc M) pc = .ok (.bipush n, 2)) (hv : (Int8.ofInt n).toInt32 = v) (k : Go g M (pc + 2) lo (.int v :: st) h b Post) : Go g M pc lo st h b Post := by
  intro p e s m args below meth c C Q hQ H locs cells slots ls hW hS hl h1 h2 hz
  exact lv_bipush C.2.1 C.2.2.1 hd hv (k p e s m args below meth c C Q hQ H locs cells slots ls hW hS hl h1 h2 hz)
theorem ok_sipush {n : Int} {v : Int32} (hd : decode (Mc M) pc = .ok (.sipush n, 3)) (hv : (Int16.ofInt n).toInt32 = v) (k : Go g M (pc + 3) lo (.int v :: st) h b Post) : Go g M pc lo st h b Post := by
  intro p e s m args below meth c C Q hQ H locs cells slots ls hW hS hl h1 h2 hz
  exact lv_sipush C.2.1 C.2.2.1 hd hv (k p e s m args below meth c C Q hQ H locs cells slots ls hW hS hl h1 h2 hz)
theorem ok_lconst {n : Fin 2} {v : Int64} (hd : decode (Mc M) pc = .ok (.lconst n, 1)) (hv : Int64.ofNat (n : Nat) = v) (k : Go g M (pc + 1) lo (.long v :: st) h b Post) : Go g M pc lo st h b Post := by
  intro p e s m args below meth c C Q hQ H locs cells slots ls hW hS hl h1 h2 hz
  exact lv_lconst C.2.1 C.2.2.1 hd hv (k p e s m args below meth c C Q hQ H locs cells slots ls hW hS hl h1 h2 hz)
theorem ok_ldc {i : Nat} {v : Int32} (hd : decode (Mc M) pc = .ok (.ldc i, 2)) (hw : Cond.constant (My M).cls i v ∈ tb) (k : Go g M (pc + 2) lo (.int v :: st) h b Post) : Go g M pc lo st h b Post := by
  intro p e s m args below meth c C Q hQ H locs cells slots ls hW hS hl h1 h2 hz
  exact lv_ldc C.2.1 C.2.2.1 C.2.2.2.2.1 (C.2.2.2.2.2.1 _ hw) hd (k p e s m args below meth c C Q hQ H locs cells slots ls hW hS hl h1 h2 hz)
theorem ok_ldcw {i : Nat} {v : Int32} (hd : decode (Mc M) pc = .ok (.ldc_w i, 3)) (hw : Cond.constant (My M).cls i v ∈ tb) (k : Go g M (pc + 3) lo (.int v :: st) h b Post) : Go g M pc lo st h b Post := by
  intro p e s m args below meth c C Q hQ H locs cells slots ls hW hS hl h1 h2 hz
  exact lv_ldcw C.2.1 C.2.2.1 C.2.2.2.2.1 (C.2.2.2.2.2.1 _ hw) hd (k p e s m args below meth c C Q hQ H locs cells slots ls hW hS hl h1 h2 hz)
theorem ok_ldc2 {i : Nat} {v : Int64} (hd : decode (Mc M) pc = .ok (.ldc2_w i, 3)) (hw : Cond.constantLong (My M).cls i v ∈ tb) (k : Go g M (pc + 3) lo (.long v :: st) h b Post) : Go g M pc lo st h b Post := by
  intro p e s m args below meth c C Q hQ H locs cells slots ls hW hS hl h1 h2 hz
  exact lv_ldc2 C.2.1 C.2.2.1 C.2.2.2.2.1 (C.2.2.2.2.2.1 _ hw) hd (k p e s m args below meth c C Q hQ H locs cells slots ls hW hS hl h1 h2 hz)
theorem ok_iload_n {n : Fin 4} {i : Nat} {x : Int32} (hd : decode (Mc M) pc = .ok (.iload_n n, 1)) (hi : (n : Nat) = i) (hv : lo[i]? = some (some (.int x))) (k : Go g M (pc + 1) lo (.int x :: st) h b Post) : Go g M pc lo st h b Post := by
  intro p e s m args below meth c C Q hQ H locs cells slots ls hW hS hl h1 h2 hz
  exact lv_iload_n C.2.1 C.2.2.1 hd hi (asc_at hl hv) (k p e s m args below meth c C Q hQ H locs cells slots ls hW hS hl h1 h2 hz)
theorem ok_iload {i : Nat} {x : Int32} (hd : decode (Mc M) pc = .ok (.iload i, 2)) (hv : lo[i]? = some (some (.int x))) (k : Go g M (pc + 2) lo (.int x :: st) h b Post) : Go g M pc lo st h b Post := by
  intro p e s m args below meth c C Q hQ H locs cells slots ls hW hS hl h1 h2 hz
  exact lv_iload C.2.1 C.2.2.1 hd (asc_at hl hv) (k p e s m args below meth c C Q hQ H locs cells slots ls hW hS hl h1 h2 hz)
theorem ok_lload_n {n : Fin 4} {i : Nat} {x : Int64} (hd : decode (Mc M) pc = .ok (.lload_n n, 1)) (hi : (n : Nat) = i) (hv : lo[i]? = some (some (.long x))) (k : Go g M (pc + 1) lo (.long x :: st) h b Post) : Go g M pc lo st h b Post := by
  intro p e s m args below meth c C Q hQ H locs cells slots ls hW hS hl h1 h2 hz
  exact lv_lload_n C.2.1 C.2.2.1 hd hi (asc_at hl hv) (k p e s m args below meth c C Q hQ H locs cells slots ls hW hS hl h1 h2 hz)
theorem ok_lload {i : Nat} {x : Int64} (hd : decode (Mc M) pc = .ok (.lload i, 2)) (hv : lo[i]? = some (some (.long x))) (k : Go g M (pc + 2) lo (.long x :: st) h b Post) : Go g M pc lo st h b Post := by
  intro p e s m args below meth c C Q hQ H locs cells slots ls hW hS hl h1 h2 hz
  exact lv_lload C.2.1 C.2.2.1 hd (asc_at hl hv) (k p e s m args below meth c C Q hQ H locs cells slots ls hW hS hl h1 h2 hz)
theorem ok_aload_n {n : Fin 4} {i : Nat} {x : Nat} (hd : decode (Mc M) pc = .ok (.aload_n n, 1)) (hi : (n : Nat) = i) (hv : lo[i]? = some (some (.ref x))) (k : Go g M (pc + 1) lo (.ref x :: st) h b Post) : Go g M pc lo st h b Post := by
  intro p e s m args below meth c C Q hQ H locs cells slots ls hW hS hl h1 h2 hz
  exact lv_aload_n C.2.1 C.2.2.1 hd hi (asc_at hl hv) (k p e s m args below meth c C Q hQ H locs cells slots ls hW hS hl h1 h2 hz)
theorem ok_aload {i : Nat} {x : Nat} (hd : decode (Mc M) pc = .ok (.aload i, 2)) (hv : lo[i]? = some (some (.ref x))) (k : Go g M (pc + 2) lo (.ref x :: st) h b Post) : Go g M pc lo st h b Post := by
  intro p e s m args below meth c C Q hQ H locs cells slots ls hW hS hl h1 h2 hz
  exact lv_aload C.2.1 C.2.2.1 hd (asc_at hl hv) (k p e s m args below meth c C Q hQ H locs cells slots ls hW hS hl h1 h2 hz)
theorem ok_istore_n {n : Fin 4} {i : Nat} {x : Int32} (hd : decode (Mc M) pc = .ok (.istore_n n, 1)) (hi : (n : Nat) = i) (hn : i < Ml M) (hok : okst lo i = true) (hl' : lo.set i (some (.int x)) = lo') (k : Go g M (pc + 1) lo' st h b Post) : Go g M pc lo (.int x :: st) h b Post := by
  intro p e s m args below meth c C Q hQ H locs cells slots ls hW hS hl h1 h2 hz
  subst hl'
  exact lv_istore_n C.2.1 C.2.2.1 hd hi hl hn rfl (fun ls2 hl2 => k p e s m args below meth c C Q hQ H locs cells slots ls2 hW hS (lv_mono hl2 (asc_set1 hok)) h1 h2 hz)
theorem ok_istore {i : Nat} {x : Int32} (hd : decode (Mc M) pc = .ok (.istore i, 2)) (hn : i < Ml M) (hok : okst lo i = true) (hl' : lo.set i (some (.int x)) = lo') (k : Go g M (pc + 2) lo' st h b Post) : Go g M pc lo (.int x :: st) h b Post := by
  intro p e s m args below meth c C Q hQ H locs cells slots ls hW hS hl h1 h2 hz
  subst hl'
  exact lv_istore C.2.1 C.2.2.1 hd hl hn rfl (fun ls2 hl2 => k p e s m args below meth c C Q hQ H locs cells slots ls2 hW hS (lv_mono hl2 (asc_set1 hok)) h1 h2 hz)
theorem ok_astore_n {n : Fin 4} {i : Nat} {x : Nat} (hd : decode (Mc M) pc = .ok (.astore_n n, 1)) (hi : (n : Nat) = i) (hn : i < Ml M) (hok : okst lo i = true) (hl' : lo.set i (some (.ref x)) = lo') (k : Go g M (pc + 1) lo' st h b Post) : Go g M pc lo (.ref x :: st) h b Post := by
  intro p e s m args below meth c C Q hQ H locs cells slots ls hW hS hl h1 h2 hz
  subst hl'
  exact lv_astore_n C.2.1 C.2.2.1 hd hi hl hn rfl (fun ls2 hl2 => k p e s m args below meth c C Q hQ H locs cells slots ls2 hW hS (lv_mono hl2 (asc_set1 (v := .ref x) hok)) h1 h2 hz)
theorem ok_astore {i : Nat} {x : Nat} (hd : decode (Mc M) pc = .ok (.astore i, 2)) (hn : i < Ml M) (hok : okst lo i = true) (hl' : lo.set i (some (.ref x)) = lo') (k : Go g M (pc + 2) lo' st h b Post) : Go g M pc lo (.ref x :: st) h b Post := by
  intro p e s m args below meth c C Q hQ H locs cells slots ls hW hS hl h1 h2 hz
  subst hl'
  exact lv_astore C.2.1 C.2.2.1 hd hl hn rfl (fun ls2 hl2 => k p e s m args below meth c C Q hQ H locs cells slots ls2 hW hS (lv_mono hl2 (asc_set1 (v := .ref x) hok)) h1 h2 hz)
theorem ok_lstore_n {n : Fin 4} {i : Nat} {x : Int64} (hd : decode (Mc M) pc = .ok (.lstore_n n, 1)) (hi : (n : Nat) = i) (hn : i + 1 < Ml M) (hok : okst lo i = true) (hl' : (lo.set i (some (.long x))).set (i + 1) none = lo') (k : Go g M (pc + 1) lo' st h b Post) : Go g M pc lo (.long x :: st) h b Post := by
  intro p e s m args below meth c C Q hQ H locs cells slots ls hW hS hl h1 h2 hz
  subst hl'
  exact lv_lstore_n C.2.1 C.2.2.1 hd hi hl hn rfl (fun ls2 hl2 => k p e s m args below meth c C Q hQ H locs cells slots ls2 hW hS (lv_mono hl2 (asc_set2 hok)) h1 h2 hz)
theorem ok_lstore {i : Nat} {x : Int64} (hd : decode (Mc M) pc = .ok (.lstore i, 2)) (hn : i + 1 < Ml M) (hok : okst lo i = true) (hl' : (lo.set i (some (.long x))).set (i + 1) none = lo') (k : Go g M (pc + 2) lo' st h b Post) : Go g M pc lo (.long x :: st) h b Post := by
  intro p e s m args below meth c C Q hQ H locs cells slots ls hW hS hl h1 h2 hz
  subst hl'
  exact lv_lstore C.2.1 C.2.2.1 hd hl hn rfl (fun ls2 hl2 => k p e s m args below meth c C Q hQ H locs cells slots ls2 hW hS (lv_mono hl2 (asc_set2 hok)) h1 h2 hz)
theorem ok_iinc {i : Nat} {n : Int} {x v : Int32} (hd : decode (Mc M) pc = .ok (.iinc i n, 3)) (hx : lo[i]? = some (some (.int x))) (hv : x + Int32.ofInt n = v) (hn : i < Ml M) (hok : okst lo i = true) (hl' : lo.set i (some (.int v)) = lo') (k : Go g M (pc + 3) lo' st h b Post) : Go g M pc lo st h b Post := by
  intro p e s m args below meth c C Q hQ H locs cells slots ls hW hS hl h1 h2 hz
  subst hl'
  obtain ⟨j, hj⟩ := List.getElem?_of_mem (mem_asc (g := g) (lo := lo) (q := (i, .int x)) |>.mpr ⟨.int x, hx, rfl⟩)
  exact lv_iinc C.2.1 C.2.2.1 hd hl hj hv hn rfl (fun ls2 hl2 => k p e s m args below meth c C Q hQ H locs cells slots ls2 hW hS (lv_mono hl2 (asc_set1 hok)) h1 h2 hz)
theorem ok_iadd {x y : Int32} (hd : decode (Mc M) pc = .ok (.iadd, 1)) (k : Go g M (pc + 1) lo (.int (x + y) :: st) h b Post) : Go g M pc lo (.int y :: .int x :: st) h b Post := by
  intro p e s m args below meth c C Q hQ H locs cells slots ls hW hS hl h1 h2 hz
  exact lv_iadd C.2.1 C.2.2.1 hd (k p e s m args below meth c C Q hQ H locs cells slots ls hW hS hl h1 h2 hz)
theorem ok_isub {x y : Int32} (hd : decode (Mc M) pc = .ok (.isub, 1)) (k : Go g M (pc + 1) lo (.int (x - y) :: st) h b Post) : Go g M pc lo (.int y :: .int x :: st) h b Post := by
  intro p e s m args below meth c C Q hQ H locs cells slots ls hW hS hl h1 h2 hz
  exact lv_isub C.2.1 C.2.2.1 hd (k p e s m args below meth c C Q hQ H locs cells slots ls hW hS hl h1 h2 hz)
theorem ok_imul {x y : Int32} (hd : decode (Mc M) pc = .ok (.imul, 1)) (k : Go g M (pc + 1) lo (.int (x * y) :: st) h b Post) : Go g M pc lo (.int y :: .int x :: st) h b Post := by
  intro p e s m args below meth c C Q hQ H locs cells slots ls hW hS hl h1 h2 hz
  exact lv_imul C.2.1 C.2.2.1 hd (k p e s m args below meth c C Q hQ H locs cells slots ls hW hS hl h1 h2 hz)
theorem ok_iand {x y : Int32} (hd : decode (Mc M) pc = .ok (.iand, 1)) (k : Go g M (pc + 1) lo (.int (x &&& y) :: st) h b Post) : Go g M pc lo (.int y :: .int x :: st) h b Post := by
  intro p e s m args below meth c C Q hQ H locs cells slots ls hW hS hl h1 h2 hz
  exact lv_iand C.2.1 C.2.2.1 hd (k p e s m args below meth c C Q hQ H locs cells slots ls hW hS hl h1 h2 hz)
theorem ok_ior {x y : Int32} (hd : decode (Mc M) pc = .ok (.ior, 1)) (k : Go g M (pc + 1) lo (.int (x ||| y) :: st) h b Post) : Go g M pc lo (.int y :: .int x :: st) h b Post := by
  intro p e s m args below meth c C Q hQ H locs cells slots ls hW hS hl h1 h2 hz
  exact lv_ior C.2.1 C.2.2.1 hd (k p e s m args below meth c C Q hQ H locs cells slots ls hW hS hl h1 h2 hz)
theorem ok_ixor {x y : Int32} (hd : decode (Mc M) pc = .ok (.ixor, 1)) (k : Go g M (pc + 1) lo (.int (x ^^^ y) :: st) h b Post) : Go g M pc lo (.int y :: .int x :: st) h b Post := by
  intro p e s m args below meth c C Q hQ H locs cells slots ls hW hS hl h1 h2 hz
  exact lv_ixor C.2.1 C.2.2.1 hd (k p e s m args below meth c C Q hQ H locs cells slots ls hW hS hl h1 h2 hz)
theorem ok_idiv {x y : Int32} (hd : decode (Mc M) pc = .ok (.idiv, 1)) (hne : ¬ y = 0) (k : Go g M (pc + 1) lo (.int (x / y) :: st) h b Post) : Go g M pc lo (.int y :: .int x :: st) h b Post := by
  intro p e s m args below meth c C Q hQ H locs cells slots ls hW hS hl h1 h2 hz
  exact lv_idiv C.2.1 C.2.2.1 hd hne (k p e s m args below meth c C Q hQ H locs cells slots ls hW hS hl h1 h2 hz)
theorem ok_irem {x y : Int32} (hd : decode (Mc M) pc = .ok (.irem, 1)) (hne : ¬ y = 0) (k : Go g M (pc + 1) lo (.int (x - x / y * y) :: st) h b Post) : Go g M pc lo (.int y :: .int x :: st) h b Post := by
  intro p e s m args below meth c C Q hQ H locs cells slots ls hW hS hl h1 h2 hz
  exact lv_irem C.2.1 C.2.2.1 hd hne (k p e s m args below meth c C Q hQ H locs cells slots ls hW hS hl h1 h2 hz)
theorem ok_ishl {x y : Int32} (hd : decode (Mc M) pc = .ok (.ishl, 1)) (k : Go g M (pc + 1) lo (.int (x <<< (y &&& 31)) :: st) h b Post) : Go g M pc lo (.int y :: .int x :: st) h b Post := by
  intro p e s m args below meth c C Q hQ H locs cells slots ls hW hS hl h1 h2 hz
  exact lv_ishl C.2.1 C.2.2.1 hd (k p e s m args below meth c C Q hQ H locs cells slots ls hW hS hl h1 h2 hz)
theorem ok_ishr {x y : Int32} (hd : decode (Mc M) pc = .ok (.ishr, 1)) (k : Go g M (pc + 1) lo (.int (x >>> (y &&& 31)) :: st) h b Post) : Go g M pc lo (.int y :: .int x :: st) h b Post := by
  intro p e s m args below meth c C Q hQ H locs cells slots ls hW hS hl h1 h2 hz
  exact lv_ishr C.2.1 C.2.2.1 hd (k p e s m args below meth c C Q hQ H locs cells slots ls hW hS hl h1 h2 hz)
theorem ok_ladd {x y : Int64} (hd : decode (Mc M) pc = .ok (.ladd, 1)) (k : Go g M (pc + 1) lo (.long (x + y) :: st) h b Post) : Go g M pc lo (.long y :: .long x :: st) h b Post := by
  intro p e s m args below meth c C Q hQ H locs cells slots ls hW hS hl h1 h2 hz
  exact lv_ladd C.2.1 C.2.2.1 hd (k p e s m args below meth c C Q hQ H locs cells slots ls hW hS hl h1 h2 hz)
theorem ok_lsub {x y : Int64} (hd : decode (Mc M) pc = .ok (.lsub, 1)) (k : Go g M (pc + 1) lo (.long (x - y) :: st) h b Post) : Go g M pc lo (.long y :: .long x :: st) h b Post := by
  intro p e s m args below meth c C Q hQ H locs cells slots ls hW hS hl h1 h2 hz
  exact lv_lsub C.2.1 C.2.2.1 hd (k p e s m args below meth c C Q hQ H locs cells slots ls hW hS hl h1 h2 hz)
theorem ok_lmul {x y : Int64} (hd : decode (Mc M) pc = .ok (.lmul, 1)) (k : Go g M (pc + 1) lo (.long (x * y) :: st) h b Post) : Go g M pc lo (.long y :: .long x :: st) h b Post := by
  intro p e s m args below meth c C Q hQ H locs cells slots ls hW hS hl h1 h2 hz
  exact lv_lmul C.2.1 C.2.2.1 hd (k p e s m args below meth c C Q hQ H locs cells slots ls hW hS hl h1 h2 hz)
theorem ok_land {x y : Int64} (hd : decode (Mc M) pc = .ok (.land, 1)) (k : Go g M (pc + 1) lo (.long (x &&& y) :: st) h b Post) : Go g M pc lo (.long y :: .long x :: st) h b Post := by
  intro p e s m args below meth c C Q hQ H locs cells slots ls hW hS hl h1 h2 hz
  exact lv_land C.2.1 C.2.2.1 hd (k p e s m args below meth c C Q hQ H locs cells slots ls hW hS hl h1 h2 hz)
theorem ok_lor {x y : Int64} (hd : decode (Mc M) pc = .ok (.lor, 1)) (k : Go g M (pc + 1) lo (.long (x ||| y) :: st) h b Post) : Go g M pc lo (.long y :: .long x :: st) h b Post := by
  intro p e s m args below meth c C Q hQ H locs cells slots ls hW hS hl h1 h2 hz
  exact lv_lor C.2.1 C.2.2.1 hd (k p e s m args below meth c C Q hQ H locs cells slots ls hW hS hl h1 h2 hz)
theorem ok_ineg {x : Int32} (hd : decode (Mc M) pc = .ok (.ineg, 1)) (k : Go g M (pc + 1) lo (.int (-x) :: st) h b Post) : Go g M pc lo (.int x :: st) h b Post := by
  intro p e s m args below meth c C Q hQ H locs cells slots ls hW hS hl h1 h2 hz
  exact lv_ineg C.2.1 C.2.2.1 hd (k p e s m args below meth c C Q hQ H locs cells slots ls hW hS hl h1 h2 hz)
theorem ok_iushr {x y : Int32} (hd : decode (Mc M) pc = .ok (.iushr, 1)) (k : Go g M (pc + 1) lo (.int ((x.toUInt32 >>> (y.toUInt32 &&& Int32.toUInt32 31)).toInt32) :: st) h b Post) : Go g M pc lo (.int y :: .int x :: st) h b Post := by
  intro p e s m args below meth c C Q hQ H locs cells slots ls hW hS hl h1 h2 hz
  exact lv_iushr C.2.1 C.2.2.1 hd rfl (k p e s m args below meth c C Q hQ H locs cells slots ls hW hS hl h1 h2 hz)
theorem ok_lshl {x : Int64} {y : Int32} (hd : decode (Mc M) pc = .ok (.lshl, 1)) (k : Go g M (pc + 1) lo (.long (x <<< (y.toInt64 &&& 63)) :: st) h b Post) : Go g M pc lo (.int y :: .long x :: st) h b Post := by
  intro p e s m args below meth c C Q hQ H locs cells slots ls hW hS hl h1 h2 hz
  exact lv_lshl C.2.1 C.2.2.1 hd rfl (k p e s m args below meth c C Q hQ H locs cells slots ls hW hS hl h1 h2 hz)
theorem ok_lshr {x : Int64} {y : Int32} (hd : decode (Mc M) pc = .ok (.lshr, 1)) (k : Go g M (pc + 1) lo (.long (x >>> (y.toInt64 &&& 63)) :: st) h b Post) : Go g M pc lo (.int y :: .long x :: st) h b Post := by
  intro p e s m args below meth c C Q hQ H locs cells slots ls hW hS hl h1 h2 hz
  exact lv_lshr C.2.1 C.2.2.1 hd rfl (k p e s m args below meth c C Q hQ H locs cells slots ls hW hS hl h1 h2 hz)
theorem ok_i2l {x : Int32} (hd : decode (Mc M) pc = .ok (.i2l, 1)) (k : Go g M (pc + 1) lo (.long (x.toInt64) :: st) h b Post) : Go g M pc lo (.int x :: st) h b Post := by
  intro p e s m args below meth c C Q hQ H locs cells slots ls hW hS hl h1 h2 hz
  exact lv_i2l C.2.1 C.2.2.1 hd rfl (k p e s m args below meth c C Q hQ H locs cells slots ls hW hS hl h1 h2 hz)
theorem ok_l2i {x : Int64} (hd : decode (Mc M) pc = .ok (.l2i, 1)) (k : Go g M (pc + 1) lo (.int (x.toInt32) :: st) h b Post) : Go g M pc lo (.long x :: st) h b Post := by
  intro p e s m args below meth c C Q hQ H locs cells slots ls hW hS hl h1 h2 hz
  exact lv_l2i C.2.1 C.2.2.1 hd rfl (k p e s m args below meth c C Q hQ H locs cells slots ls hW hS hl h1 h2 hz)
theorem ok_i2b {x : Int32} (hd : decode (Mc M) pc = .ok (.i2b, 1)) (k : Go g M (pc + 1) lo (.int (x.toInt8.toInt32) :: st) h b Post) : Go g M pc lo (.int x :: st) h b Post := by
  intro p e s m args below meth c C Q hQ H locs cells slots ls hW hS hl h1 h2 hz
  exact lv_i2b C.2.1 C.2.2.1 hd rfl (k p e s m args below meth c C Q hQ H locs cells slots ls hW hS hl h1 h2 hz)
theorem ok_i2s {x : Int32} (hd : decode (Mc M) pc = .ok (.i2s, 1)) (k : Go g M (pc + 1) lo (.int (x.toInt16.toInt32) :: st) h b Post) : Go g M pc lo (.int x :: st) h b Post := by
  intro p e s m args below meth c C Q hQ H locs cells slots ls hW hS hl h1 h2 hz
  exact lv_i2s C.2.1 C.2.2.1 hd rfl (k p e s m args below meth c C Q hQ H locs cells slots ls hW hS hl h1 h2 hz)
theorem ok_i2c {x : Int32} (hd : decode (Mc M) pc = .ok (.i2c, 1)) (k : Go g M (pc + 1) lo (.int ((x.toUInt32 % 65536).toInt32) :: st) h b Post) : Go g M pc lo (.int x :: st) h b Post := by
  intro p e s m args below meth c C Q hQ H locs cells slots ls hW hS hl h1 h2 hz
  exact lv_i2c C.2.1 C.2.2.1 hd rfl (k p e s m args below meth c C Q hQ H locs cells slots ls hW hS hl h1 h2 hz)
theorem ok_lcmp {x y : Int64} (hd : decode (Mc M) pc = .ok (.lcmp, 1)) (k : Go g M (pc + 1) lo (.int (lg_cmp x y) :: st) h b Post) : Go g M pc lo (.long y :: .long x :: st) h b Post := by
  intro p e s m args below meth c C Q hQ H locs cells slots ls hW hS hl h1 h2 hz
  exact W.lcmp C.2.1 C.2.2.1 hd (k p e s m args below meth c C Q hQ H locs cells slots ls hW hS hl h1 h2 hz)
theorem ok_dup {v : Value} (hd : decode (Mc M) pc = .ok (.dup, 1)) (hv : v.category = 1) (k : Go g M (pc + 1) lo (v :: v :: st) h b Post) : Go g M pc lo (v :: st) h b Post := by
  intro p e s m args below meth c C Q hQ H locs cells slots ls hW hS hl h1 h2 hz
  exact lv_dup C.2.1 C.2.2.1 hd ((tv_cat g v).trans hv) (k p e s m args below meth c C Q hQ H locs cells slots ls hW hS hl h1 h2 hz)
theorem ok_pop {v : Value} (hd : decode (Mc M) pc = .ok (.pop, 1)) (hv : v.category = 1) (k : Go g M (pc + 1) lo st h b Post) : Go g M pc lo (v :: st) h b Post := by
  intro p e s m args below meth c C Q hQ H locs cells slots ls hW hS hl h1 h2 hz
  exact lv_pop C.2.1 C.2.2.1 hd ((tv_cat g v).trans hv) (k p e s m args below meth c C Q hQ H locs cells slots ls hW hS hl h1 h2 hz)
theorem ok_dup2 {v w : Value} (hd : decode (Mc M) pc = .ok (.dup2, 1)) (hv : v.category = 1) (hw : w.category = 1) (k : Go g M (pc + 1) lo (v :: w :: v :: w :: st) h b Post) : Go g M pc lo (v :: w :: st) h b Post := by
  intro p e s m args below meth c C Q hQ H locs cells slots ls hW hS hl h1 h2 hz
  exact lv_dup2_11 C.2.1 C.2.2.1 hd ((tv_cat g v).trans hv) ((tv_cat g w).trans hw) (k p e s m args below meth c C Q hQ H locs cells slots ls hW hS hl h1 h2 hz)
theorem ok_if_eq {x : Int32} {off : Int} {tgt : Nat} (hd : decode (Mc M) pc = .ok (.ifCond .eq off, 3)) (ht : (pc : Int) + off = (tgt : Int)) (kt : x = 0 → Go g M tgt lo st h b Post) (kf : ¬ (x = 0) → Go g M (pc + 3) lo st h b Post) : Go g M pc lo (.int x :: st) h b Post := by
  intro p e s m args below meth c C Q hQ H locs cells slots ls hW hS hl h1 h2 hz
  exact lv_if_eq C.2.1 C.2.2.1 hd ht (fun q => kt q p e s m args below meth c C Q hQ H locs cells slots ls hW hS hl h1 h2 hz) (fun q => kf q p e s m args below meth c C Q hQ H locs cells slots ls hW hS hl h1 h2 hz)
theorem ok_icmp_eq {x y : Int32} {off : Int} {tgt : Nat} (hd : decode (Mc M) pc = .ok (.if_icmp .eq off, 3)) (ht : (pc : Int) + off = (tgt : Int)) (kt : x = y → Go g M tgt lo st h b Post) (kf : ¬ (x = y) → Go g M (pc + 3) lo st h b Post) : Go g M pc lo (.int y :: .int x :: st) h b Post := by
  intro p e s m args below meth c C Q hQ H locs cells slots ls hW hS hl h1 h2 hz
  exact lv_icmp_eq C.2.1 C.2.2.1 hd ht (fun q => kt q p e s m args below meth c C Q hQ H locs cells slots ls hW hS hl h1 h2 hz) (fun q => kf q p e s m args below meth c C Q hQ H locs cells slots ls hW hS hl h1 h2 hz)
theorem ok_if_ne {x : Int32} {off : Int} {tgt : Nat} (hd : decode (Mc M) pc = .ok (.ifCond .ne off, 3)) (ht : (pc : Int) + off = (tgt : Int)) (kt : ¬ x = 0 → Go g M tgt lo st h b Post) (kf : x = 0 → Go g M (pc + 3) lo st h b Post) : Go g M pc lo (.int x :: st) h b Post := by
  intro p e s m args below meth c C Q hQ H locs cells slots ls hW hS hl h1 h2 hz
  exact lv_if_ne C.2.1 C.2.2.1 hd ht (fun q => kt q p e s m args below meth c C Q hQ H locs cells slots ls hW hS hl h1 h2 hz) (fun q => kf q p e s m args below meth c C Q hQ H locs cells slots ls hW hS hl h1 h2 hz)
theorem ok_icmp_ne {x y : Int32} {off : Int} {tgt : Nat} (hd : decode (Mc M) pc = .ok (.if_icmp .ne off, 3)) (ht : (pc : Int) + off = (tgt : Int)) (kt : ¬ x = y → Go g M tgt lo st h b Post) (kf : x = y → Go g M (pc + 3) lo st h b Post) : Go g M pc lo (.int y :: .int x :: st) h b Post := by
  intro p e s m args below meth c C Q hQ H locs cells slots ls hW hS hl h1 h2 hz
  exact lv_icmp_ne C.2.1 C.2.2.1 hd ht (fun q => kt q p e s m args below meth c C Q hQ H locs cells slots ls hW hS hl h1 h2 hz) (fun q => kf q p e s m args below meth c C Q hQ H locs cells slots ls hW hS hl h1 h2 hz)
theorem ok_if_lt {x : Int32} {off : Int} {tgt : Nat} (hd : decode (Mc M) pc = .ok (.ifCond .lt off, 3)) (ht : (pc : Int) + off = (tgt : Int)) (kt : x < 0 → Go g M tgt lo st h b Post) (kf : ¬ (x < 0) → Go g M (pc + 3) lo st h b Post) : Go g M pc lo (.int x :: st) h b Post := by
  intro p e s m args below meth c C Q hQ H locs cells slots ls hW hS hl h1 h2 hz
  exact lv_if_lt C.2.1 C.2.2.1 hd ht (fun q => kt q p e s m args below meth c C Q hQ H locs cells slots ls hW hS hl h1 h2 hz) (fun q => kf q p e s m args below meth c C Q hQ H locs cells slots ls hW hS hl h1 h2 hz)
theorem ok_icmp_lt {x y : Int32} {off : Int} {tgt : Nat} (hd : decode (Mc M) pc = .ok (.if_icmp .lt off, 3)) (ht : (pc : Int) + off = (tgt : Int)) (kt : x < y → Go g M tgt lo st h b Post) (kf : ¬ (x < y) → Go g M (pc + 3) lo st h b Post) : Go g M pc lo (.int y :: .int x :: st) h b Post := by
  intro p e s m args below meth c C Q hQ H locs cells slots ls hW hS hl h1 h2 hz
  exact lv_icmp_lt C.2.1 C.2.2.1 hd ht (fun q => kt q p e s m args below meth c C Q hQ H locs cells slots ls hW hS hl h1 h2 hz) (fun q => kf q p e s m args below meth c C Q hQ H locs cells slots ls hW hS hl h1 h2 hz)
theorem ok_if_ge {x : Int32} {off : Int} {tgt : Nat} (hd : decode (Mc M) pc = .ok (.ifCond .ge off, 3)) (ht : (pc : Int) + off = (tgt : Int)) (kt : 0 ≤ x → Go g M tgt lo st h b Post) (kf : ¬ (0 ≤ x) → Go g M (pc + 3) lo st h b Post) : Go g M pc lo (.int x :: st) h b Post := by
  intro p e s m args below meth c C Q hQ H locs cells slots ls hW hS hl h1 h2 hz
  exact lv_if_ge C.2.1 C.2.2.1 hd ht (fun q => kt q p e s m args below meth c C Q hQ H locs cells slots ls hW hS hl h1 h2 hz) (fun q => kf q p e s m args below meth c C Q hQ H locs cells slots ls hW hS hl h1 h2 hz)
theorem ok_icmp_ge {x y : Int32} {off : Int} {tgt : Nat} (hd : decode (Mc M) pc = .ok (.if_icmp .ge off, 3)) (ht : (pc : Int) + off = (tgt : Int)) (kt : y ≤ x → Go g M tgt lo st h b Post) (kf : ¬ (y ≤ x) → Go g M (pc + 3) lo st h b Post) : Go g M pc lo (.int y :: .int x :: st) h b Post := by
  intro p e s m args below meth c C Q hQ H locs cells slots ls hW hS hl h1 h2 hz
  exact lv_icmp_ge C.2.1 C.2.2.1 hd ht (fun q => kt q p e s m args below meth c C Q hQ H locs cells slots ls hW hS hl h1 h2 hz) (fun q => kf q p e s m args below meth c C Q hQ H locs cells slots ls hW hS hl h1 h2 hz)
theorem ok_if_gt {x : Int32} {off : Int} {tgt : Nat} (hd : decode (Mc M) pc = .ok (.ifCond .gt off, 3)) (ht : (pc : Int) + off = (tgt : Int)) (kt : 0 < x → Go g M tgt lo st h b Post) (kf : ¬ (0 < x) → Go g M (pc + 3) lo st h b Post) : Go g M pc lo (.int x :: st) h b Post := by
  intro p e s m args below meth c C Q hQ H locs cells slots ls hW hS hl h1 h2 hz
  exact lv_if_gt C.2.1 C.2.2.1 hd ht (fun q => kt q p e s m args below meth c C Q hQ H locs cells slots ls hW hS hl h1 h2 hz) (fun q => kf q p e s m args below meth c C Q hQ H locs cells slots ls hW hS hl h1 h2 hz)
theorem ok_icmp_gt {x y : Int32} {off : Int} {tgt : Nat} (hd : decode (Mc M) pc = .ok (.if_icmp .gt off, 3)) (ht : (pc : Int) + off = (tgt : Int)) (kt : y < x → Go g M tgt lo st h b Post) (kf : ¬ (y < x) → Go g M (pc + 3) lo st h b Post) : Go g M pc lo (.int y :: .int x :: st) h b Post := by
  intro p e s m args below meth c C Q hQ H locs cells slots ls hW hS hl h1 h2 hz
  exact lv_icmp_gt C.2.1 C.2.2.1 hd ht (fun q => kt q p e s m args below meth c C Q hQ H locs cells slots ls hW hS hl h1 h2 hz) (fun q => kf q p e s m args below meth c C Q hQ H locs cells slots ls hW hS hl h1 h2 hz)
theorem ok_if_le {x : Int32} {off : Int} {tgt : Nat} (hd : decode (Mc M) pc = .ok (.ifCond .le off, 3)) (ht : (pc : Int) + off = (tgt : Int)) (kt : x ≤ 0 → Go g M tgt lo st h b Post) (kf : ¬ (x ≤ 0) → Go g M (pc + 3) lo st h b Post) : Go g M pc lo (.int x :: st) h b Post := by
  intro p e s m args below meth c C Q hQ H locs cells slots ls hW hS hl h1 h2 hz
  exact lv_if_le C.2.1 C.2.2.1 hd ht (fun q => kt q p e s m args below meth c C Q hQ H locs cells slots ls hW hS hl h1 h2 hz) (fun q => kf q p e s m args below meth c C Q hQ H locs cells slots ls hW hS hl h1 h2 hz)
theorem ok_icmp_le {x y : Int32} {off : Int} {tgt : Nat} (hd : decode (Mc M) pc = .ok (.if_icmp .le off, 3)) (ht : (pc : Int) + off = (tgt : Int)) (kt : x ≤ y → Go g M tgt lo st h b Post) (kf : ¬ (x ≤ y) → Go g M (pc + 3) lo st h b Post) : Go g M pc lo (.int y :: .int x :: st) h b Post := by
  intro p e s m args below meth c C Q hQ H locs cells slots ls hW hS hl h1 h2 hz
  exact lv_icmp_le C.2.1 C.2.2.1 hd ht (fun q => kt q p e s m args below meth c C Q hQ H locs cells slots ls hW hS hl h1 h2 hz) (fun q => kf q p e s m args below meth c C Q hQ H locs cells slots ls hW hS hl h1 h2 hz)
theorem ok_goto {off : Int} {tgt : Nat} (hd : decode (Mc M) pc = .ok (.goto off, 3)) (ht : (pc : Int) + off = (tgt : Int)) (k : Go g M tgt lo st h b Post) : Go g M pc lo st h b Post := by
  intro p e s m args below meth c C Q hQ H locs cells slots ls hW hS hl h1 h2 hz
  exact lv_goto C.2.1 C.2.2.1 hd ht (k p e s m args below meth c C Q hQ H locs cells slots ls hW hS hl h1 h2 hz)
theorem ok_lookup {dflt : Int} {ps : Array (Int × Int)} {len : Nat} {x : Int32} {off : Int} {tgt : Nat} (hd : decode (Mc M) pc = .ok (.lookupswitch dflt ps, len)) (hp : (ps.toList.zip (ps.toList.drop 1)).all (fun (a, next) => a.1 < next.1) = true) (ho : Op.lookupswitch.offset ps.toList dflt x.toInt = off) (ht : (pc : Int) + off = (tgt : Int)) (k : Go g M tgt lo st h b Post) : Go g M pc lo (.int x :: st) h b Post := by
  intro p e s m args below meth c C Q hQ H locs cells slots ls hW hS hl h1 h2 hz
  exact lv_lookup C.2.1 C.2.2.1 hd hp ho ht (k p e s m args below meth c C Q hQ H locs cells slots ls hW hS hl h1 h2 hz)
theorem ok_tableOut {dflt l0 u0 : Int} {offs : Array Int} {len : Nat} {x : Int32} {tgt : Nat} (hd : decode (Mc M) pc = .ok (.tableswitch dflt l0 u0 offs, len)) (hx : x.toInt < l0 ∨ u0 < x.toInt) (ht : (pc : Int) + dflt = (tgt : Int)) (k : Go g M tgt lo st h b Post) : Go g M pc lo (.int x :: st) h b Post := by
  intro p e s m args below meth c C Q hQ H locs cells slots ls hW hS hl h1 h2 hz
  exact lv_tableOut C.2.1 C.2.2.1 hd hx ht (k p e s m args below meth c C Q hQ H locs cells slots ls hW hS hl h1 h2 hz)
theorem ok_tableIn {dflt l0 u0 : Int} {offs : Array Int} {len : Nat} {x : Int32} {off : Int} {tgt : Nat} (hd : decode (Mc M) pc = .ok (.tableswitch dflt l0 u0 offs, len)) (hx1 : ¬ x.toInt < l0) (hx2 : ¬ u0 < x.toInt) (ho : offs[(x.toInt - l0).toNat]? = some off) (ht : (pc : Int) + off = (tgt : Int)) (k : Go g M tgt lo st h b Post) : Go g M pc lo (.int x :: st) h b Post := by
  intro p e s m args below meth c C Q hQ H locs cells slots ls hW hS hl h1 h2 hz
  exact lv_tableIn C.2.1 C.2.2.1 hd hx1 hx2 ho ht (k p e s m args below meth c C Q hQ H locs cells slots ls hW hS hl h1 h2 hz)
theorem ok_ireturn {bs : Nat} {x : Int32} {ty : FieldType} (hd : decode (Mc M) pc = .ok (.ireturn, 1)) (hr : Mr M = some ty) (hn : narrow ty (.int x) = .int x) (k : Post (some (.int x)) h) : Go g M pc lo [.int x] h (0, bs) Post := by
  intro p e s m args below meth c C Q hQ H locs cells slots ls hW hS hl h1 h2 hz
  exact hQ (some (.int x)) h H locs cells slots pc ls k hW hS h1 (Nat.le_trans (Nat.le_add_right _ _) h2) hz ⟨⟨ty, hr, hn⟩, hd⟩
theorem ok_lreturn {bs : Nat} {x : Int64} (hd : decode (Mc M) pc = .ok (.lreturn, 1)) (hr : Mr M = some .long) (k : Post (some (.long x)) h) : Go g M pc lo [.long x] h (0, bs) Post := by
  intro p e s m args below meth c C Q hQ H locs cells slots ls hW hS hl h1 h2 hz
  exact hQ (some (.long x)) h H locs cells slots pc ls k hW hS h1 (Nat.le_trans (Nat.le_add_right _ _) h2) hz ⟨hr, hd⟩
theorem ok_areturn {bs : Nat} {x : Nat} {n : String} (hd : decode (Mc M) pc = .ok (.areturn, 1)) (hr : Mr M = some (.object n)) (k : Post (some (.ref x)) h) : Go g M pc lo [.ref x] h (0, bs) Post := by
  intro p e s m args below meth c C Q hQ H locs cells slots ls hW hS hl h1 h2 hz
  exact hQ (some (.ref x)) h H locs cells slots pc ls k hW hS h1 (Nat.le_trans (Nat.le_add_right _ _) h2) hz ⟨⟨n, hr⟩, hd⟩
theorem ok_return {bs : Nat} (hd : decode (Mc M) pc = .ok (.return_, 1)) (hr : Mr M = none) (k : Post none h) : Go g M pc lo [] h (0, bs) Post := by
  intro p e s m args below meth c C Q hQ H locs cells slots ls hW hS hl h1 h2 hz
  exact hQ none h H locs cells slots pc ls k hW hS h1 (Nat.le_trans (Nat.le_add_right _ _) h2) hz ⟨hr, hd⟩
end OkRows
