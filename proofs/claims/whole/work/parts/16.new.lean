/-! ===== new objects, new arrays, constructors of nest mates, Math, arraycopy ===== -/
theorem q_of {g : GG} {p : Program} {e : Env} {R : Room} {s : State} {m : MethodId} {args : Array Value} {below : List Frame} {meth : Method} {c : Code} {T : State} {locs : List Loc} {cells slots : Nat} {H : Heap} {h : Hp} {q : Nat} {en : va_E} (X : Stand p (gl g) e R s m args below meth c T locs (cells + 1) slots) (hT : T.heap = H) (hP : va_P (gD g) vwCl (wl g h ++ [(q, en)]) H) (hD : va_D (fun q => gb g ≤ q) (wl g h ++ [(q, en)])) (hz : s.heap.size + cells ≤ gb g + hN h) : q = gb g + hN h := by
  have h1 : T.heap.size ≤ s.heap.size + (cells + 1) := X.same.2.2.1
  rw [hT] at h1
  have hlen : (wl g h).length = hN h := by simp [wl]
  have hat : (wl g h ++ [(q, en)])[hN h]? = some (q, en) := by rw [List.getElem?_append_right (by omega), hlen, Nat.sub_self]; rfl
  have h3 : q < H.size := (hP (hN h) (q, en) hat).lt
  have h4 : gb g ≤ q := hD.2 (hN h) (q, en) hat
  by_cases hlt : q < gb g + hN h
  · have hk : q - gb g < hN h := by omega
    have h5 : (wl g h ++ [(q, en)])[q - gb g]? = some (gb g + (q - gb g), ent g h (q - gb g)) := by rw [List.getElem?_append_left (by omega), wl_at hk]
    have := hD.1 _ _ _ _ h5 hat (by show gb g + (q - gb g) = q; omega)
    omega
  · omega
def fdef : Nat → Value
  | 0 => .int 0
  | 1 => .long 0
  | _ => .null
theorem def_c : ∀ {c : Nat}, c < 6 → ∀ j, j < Nc c → defaultValue (yc c j) = fdef ((fts c).getD j 0)
  | 0, _ => by decide +kernel | 1, _ => by decide +kernel | 2, _ => by decide +kernel | 3, _ => by decide +kernel | 4, _ => by decide +kernel | 5, _ => by decide +kernel
  | c + 6, h => absurd h (by omega)
theorem fvv_born {g : GG} {h : Hp} {t n k : Nat} : ∀ y, fvv g (born h t n) (hN h) k y = fdef y
  | 0 => by show Value.int (if hN h = hN h then 0 else _) = _; rw [if_pos rfl]; rfl
  | 1 => by show Value.long (if hN h = hN h then 0 else _) = _; rw [if_pos rfl]; rfl
  | y + 2 => by show va_rf ((if hN h = hN h then none else _).map (ga g)) = _; rw [if_pos rfl]; rfl
theorem born_K {h : Hp} {t n : Nat} : hK (born h t n) (hN h) = (t, n) := if_pos rfl
theorem born_is {h : Hp} {t n : Nat} (hn : hN h < 1000) : Is (born h t n) (hN h) t n := ⟨Nat.lt_succ_self _, born_K, hn⟩
section NewRows
variable {g : GG} {M M' : MM} {pc i n : Nat} {lo : List (Option Value)} {st : List Value} {h : Hp} {b b' : Nat × Nat} {Post : Option Value → Hp → Prop}
theorem ok_new {c : Nat} (hd : decode (Mc M) pc = .ok (.new i, 3)) (hc : c < 6) (w1 : Cond.classLink (My M).cls i (Rc c) ∈ tb) (w2 : Cond.instantiable (Rc c) (Nc c) ∈ tb) (w3 : Cond.initialized (Rc c) ∈ tb) (hn : hN h < 1000) (hb1 : b'.1 + 1 = b.1) (hb2 : b'.2 + Nc c = b.2) (kk : Go g M (pc + 3) lo (.ref (hN h) :: st) (born h c 0) b' Post) : Go g M pc lo st h b Post := by
  intro p e s m args below meth cd C Q hQ H locs cells slots ls hW hS hl h1 h2 hz
  refine va_new (D := gD g) (ci := c) (fs := fvs g (born h c 0) (hN h) c) C.2.1 C.2.2.1 C.2.2.2.2.2.1 (in_c hc) (yc c) (ty_c hc) C.2.2.2.2.1 (C.2.2.2.2.2.1 _ w1) (C.2.2.2.2.2.1 _ w2) (C.2.2.2.2.2.1 _ w3) C.2.2.2.2.2.2.2.1 hW (wl_D g h) hS (fun q hq => Nat.le_trans C.2.2.2.2.2.2.2.2.2 hq) (cl_at hc) (fun j hj => ?_) (by omega) (by omega) hd (fun q H1 hP hD hS1 => ?_)
  · have hj2 : j < (fts c).length := by rw [fts_len hc]; exact hj
    have hv : vp_V (fvs g (born h c 0) (hN h) c) j = fvv g (born h c 0) (hN h) j ((fts c).getD j 0) := by
      show (fvs g (born h c 0) (hN h) c).getD j .null = _
      rw [List.getD_eq_getElem?_getD, fvs_at hj2]
      rfl
    rw [def_c hc j hj, hv, fvv_born]
  · intro T hT X
    have hq := q_of X hT hP hD hz
    subst hq
    rw [wl_born (t := c) (n := 0) (by rw [ent_obj (c := c) (by rw [born_K]) hc])] at hP
    have k := kk p e s m args below meth cd C Q hQ H1 locs (cells + 1) (slots + Nc c) ls hP hS1 hl (by omega) (by omega) (show s.heap.size + (cells + 1) ≤ gb g + (hN h + 1) by omega)
    have e2 : tv g (.ref (hN h)) = .ref (gb g + hN h) := congrArg Value.ref (C.1.1 _ hn)
    have k2 : W p (gl g) e (Mm M) s m args below meth cd H1 locs (cells + 1) (slots + Nc c) Q (F0 m (pc + 3) ls (tv g (.ref (hN h)) :: st.map (tv g))) := k
    rw [e2] at k2
    exact k2 T hT X
theorem ra_eq {s : State} {c1 c2 : ClassId} {ty : FieldType} (h1 : va_RA s c1 ty) (h2 : va_RA s c2 ty) : c1 = c2 := by
  cases ty with
  | object C =>
    obtain ⟨_, _, -, -, -, a1⟩ := h1
    obtain ⟨_, _, -, -, -, a2⟩ := h2
    exact Option.some.inj (a1.symm.trans a2)
  | _ => exact Option.some.inj (Eq.trans (Eq.symm h1) h2)
theorem ok_newI {x : Int32} {N : Nat} (hd : decode (Mc M) pc = .ok (.newarray .int, 2)) (hw : Cond.arrayClass .int ∈ tb) (hx : ¬ x < 0) (hN2 : x.toNatClampNeg = N) (hN3 : N ≤ 1000) (hn : hN h < 1000) (hb1 : b'.1 + 1 = b.1) (hb2 : b'.2 + N = b.2) (kk : Go g M (pc + 2) lo (.ref (hN h) :: st) (born h 7 N) b' Post) : Go g M pc lo (.int x :: st) h b Post := by
  intro p e s m args below meth cd C Q hQ H locs cells slots ls hW hS hl h1 h2 hz
  refine va_newa (D := gD g) (atype := .int) (ty := .int) (a0 := (N, .inl (fun _ => 0))) C.2.1 C.2.2.1 (C.2.2.2.2.2.1 _ hw) rfl C.2.2.2.2.2.2.2.1 hW (wl_D g h) hS (fun q hq => Nat.le_trans C.2.2.2.2.2.2.2.2.2 hq) (fun cA => rfl) hx hN2 (by show N * 4 ≤ _; omega) (by omega) (by omega) hd (fun q cA H1 hK hP hD hS1 => ?_)
  intro T hT X
  have hq := q_of X hT hP hD hz
  subst hq
  have hcA : cA = gc g 1 := ra_eq (hK.2 5 (cA, .int) rfl).2 (hK.2 1 (gc g 1, .int) rfl).2
  subst hcA
  rw [wl_born (by rw [ent_7 born_K]; exact congrArg (fun f => Sum.inl (gc g 1, N, Sum.inl f)) (funext fun j => if_pos rfl))] at hP
  have k := kk p e s m args below meth cd C Q hQ H1 locs (cells + 1) (slots + N) ls hP hS1 hl (by omega) (by omega) (show s.heap.size + (cells + 1) ≤ gb g + (hN h + 1) by omega)
  have e2 : tv g (.ref (hN h)) = .ref (gb g + hN h) := congrArg Value.ref (C.1.1 _ hn)
  have k2 : W p (gl g) e (Mm M) s m args below meth cd H1 locs (cells + 1) (slots + N) Q (F0 m (pc + 2) ls (tv g (.ref (hN h)) :: st.map (tv g))) := k
  rw [e2] at k2
  exact k2 T hT X
theorem ok_newB {x : Int32} {N : Nat} (hd : decode (Mc M) pc = .ok (.newarray .byte, 2)) (hw : Cond.arrayClass .byte ∈ tb) (hx : ¬ x < 0) (hN2 : x.toNatClampNeg = N) (hN3 : N ≤ 1000) (hn : hN h < 1000) (hb1 : b'.1 + 1 = b.1) (hb2 : b'.2 + N = b.2) (kk : Go g M (pc + 2) lo (.ref (hN h) :: st) (born h 6 N) b' Post) : Go g M pc lo (.int x :: st) h b Post := by
  intro p e s m args below meth cd C Q hQ H locs cells slots ls hW hS hl h1 h2 hz
  refine va_newa (D := gD g) (atype := .byte) (ty := .byte) (a0 := (N, .inl (fun _ => 0))) C.2.1 C.2.2.1 (C.2.2.2.2.2.1 _ hw) rfl C.2.2.2.2.2.2.2.1 hW (wl_D g h) hS (fun q hq => Nat.le_trans C.2.2.2.2.2.2.2.2.2 hq) (fun cA => rfl) hx hN2 (by show N * 1 ≤ _; omega) (by omega) (by omega) hd (fun q cA H1 hK hP hD hS1 => ?_)
  intro T hT X
  have hq := q_of X hT hP hD hz
  subst hq
  have hcA : cA = gc g 0 := ra_eq (hK.2 5 (cA, .byte) rfl).2 (hK.2 0 (gc g 0, .byte) rfl).2
  subst hcA
  rw [wl_born (by rw [ent_6 born_K]; exact congrArg (fun f => Sum.inl (gc g 0, N, Sum.inl f)) (funext fun j => if_pos rfl))] at hP
  have k := kk p e s m args below meth cd C Q hQ H1 locs (cells + 1) (slots + N) ls hP hS1 hl (by omega) (by omega) (show s.heap.size + (cells + 1) ≤ gb g + (hN h + 1) by omega)
  have e2 : tv g (.ref (hN h)) = .ref (gb g + hN h) := congrArg Value.ref (C.1.1 _ hn)
  have k2 : W p (gl g) e (Mm M) s m args below meth cd H1 locs (cells + 1) (slots + N) Q (F0 m (pc + 2) ls (tv g (.ref (hN h)) :: st.map (tv g))) := k
  rw [e2] at k2
  exact k2 T hT X
theorem ok_newJ {x : Int32} {N : Nat} (hd : decode (Mc M) pc = .ok (.newarray .long, 2)) (hw : Cond.arrayClass .long ∈ tb) (hx : ¬ x < 0) (hN2 : x.toNatClampNeg = N) (hN3 : N ≤ 1000) (hn : hN h < 1000) (hb1 : b'.1 + 1 = b.1) (hb2 : b'.2 + N = b.2) (kk : Go g M (pc + 2) lo (.ref (hN h) :: st) (born h 8 N) b' Post) : Go g M pc lo (.int x :: st) h b Post := by
  intro p e s m args below meth cd C Q hQ H locs cells slots ls hW hS hl h1 h2 hz
  refine va_newa (D := gD g) (atype := .long) (ty := .long) (a0 := (N, .inr (.inl (fun _ => 0)))) C.2.1 C.2.2.1 (C.2.2.2.2.2.1 _ hw) rfl C.2.2.2.2.2.2.2.1 hW (wl_D g h) hS (fun q hq => Nat.le_trans C.2.2.2.2.2.2.2.2.2 hq) (fun cA => rfl) hx hN2 (by show N * 8 ≤ _; omega) (by omega) (by omega) hd (fun q cA H1 hK hP hD hS1 => ?_)
  intro T hT X
  have hq := q_of X hT hP hD hz
  subst hq
  have hcA : cA = gc g 2 := ra_eq (hK.2 5 (cA, .long) rfl).2 (hK.2 2 (gc g 2, .long) rfl).2
  subst hcA
  rw [wl_born (by rw [ent_8 born_K]; exact congrArg (fun f => Sum.inl (gc g 2, N, Sum.inr (Sum.inl f))) (funext fun j => if_pos rfl))] at hP
  have k := kk p e s m args below meth cd C Q hQ H1 locs (cells + 1) (slots + N) ls hP hS1 hl (by omega) (by omega) (show s.heap.size + (cells + 1) ≤ gb g + (hN h + 1) by omega)
  have e2 : tv g (.ref (hN h)) = .ref (gb g + hN h) := congrArg Value.ref (C.1.1 _ hn)
  have k2 : W p (gl g) e (Mm M) s m args below meth cd H1 locs (cells + 1) (slots + N) Q (F0 m (pc + 2) ls (tv g (.ref (hN h)) :: st.map (tv g))) := k
  rw [e2] at k2
  exact k2 T hT X
theorem ok_newQ9 {x : Int32} {N : Nat} (hd : decode (Mc M) pc = .ok (.anewarray i, 3)) (hw : Cond.classLink (My M).cls i RX0 ∈ tb) (ho : ∀ U, gx g U → va_AO RX0 U) (hx : ¬ x < 0) (hN2 : x.toNatClampNeg = N) (hN3 : N ≤ 1000) (hn : hN h < 1000) (hb1 : b'.1 + 1 = b.1) (hb2 : b'.2 + N = b.2) (kk : Go g M (pc + 3) lo (.ref (hN h) :: st) (born h 9 N) b' Post) : Go g M pc lo (.int x :: st) h b Post := by
  intro p e s m args below meth cd C Q hQ H locs cells slots ls hW hS hl h1 h2 hz
  refine va_newq (D := gD g) C.2.1 C.2.2.1 C.2.2.2.2.1 (C.2.2.2.2.2.1 _ hw) (ho s C.2.2.2.2.2.2.2.2.1) C.2.2.2.2.2.2.2.1 hW (wl_D g h) hS (fun q hq => Nat.le_trans C.2.2.2.2.2.2.2.2.2 hq) hx hN2 (by omega) (by omega) (by omega) hd (fun q cA H1 hK hP hD hS1 => ?_)
  intro T hT X
  have hq := q_of X hT hP hD hz
  subst hq
  have hcA : cA = gc g 3 := ra_eq (hK.2 5 (cA, .object RX0) rfl).2 (hK.2 3 (gc g 3, .object RX0) rfl).2
  subst hcA
  rw [wl_born (by rw [ent_9 born_K]; exact congrArg (fun f => Sum.inl (gc g 3, N, Sum.inr (Sum.inr (Sum.inr (Sum.inr f))))) (funext fun j => by show (if hN h = hN h then none else _).map (ga g) = _; rw [if_pos rfl]; rfl))] at hP
  have k := kk p e s m args below meth cd C Q hQ H1 locs (cells + 1) (slots + N) ls hP hS1 hl (by omega) (by omega) (show s.heap.size + (cells + 1) ≤ gb g + (hN h + 1) by omega)
  have e2 : tv g (.ref (hN h)) = .ref (gb g + hN h) := congrArg Value.ref (C.1.1 _ hn)
  have k2 : W p (gl g) e (Mm M) s m args below meth cd H1 locs (cells + 1) (slots + N) Q (F0 m (pc + 3) ls (tv g (.ref (hN h)) :: st.map (tv g))) := k
  rw [e2] at k2
  exact k2 T hT X
theorem ok_newQ10 {x : Int32} {N : Nat} (hd : decode (Mc M) pc = .ok (.anewarray i, 3)) (hw : Cond.classLink (My M).cls i RX1 ∈ tb) (ho : ∀ U, gx g U → va_AO RX1 U) (hx : ¬ x < 0) (hN2 : x.toNatClampNeg = N) (hN3 : N ≤ 1000) (hn : hN h < 1000) (hb1 : b'.1 + 1 = b.1) (hb2 : b'.2 + N = b.2) (kk : Go g M (pc + 3) lo (.ref (hN h) :: st) (born h 10 N) b' Post) : Go g M pc lo (.int x :: st) h b Post := by
  intro p e s m args below meth cd C Q hQ H locs cells slots ls hW hS hl h1 h2 hz
  refine va_newq (D := gD g) C.2.1 C.2.2.1 C.2.2.2.2.1 (C.2.2.2.2.2.1 _ hw) (ho s C.2.2.2.2.2.2.2.2.1) C.2.2.2.2.2.2.2.1 hW (wl_D g h) hS (fun q hq => Nat.le_trans C.2.2.2.2.2.2.2.2.2 hq) hx hN2 (by omega) (by omega) (by omega) hd (fun q cA H1 hK hP hD hS1 => ?_)
  intro T hT X
  have hq := q_of X hT hP hD hz
  subst hq
  have hcA : cA = gc g 4 := ra_eq (hK.2 5 (cA, .object RX1) rfl).2 (hK.2 4 (gc g 4, .object RX1) rfl).2
  subst hcA
  rw [wl_born (by rw [ent_10 born_K]; exact congrArg (fun f => Sum.inl (gc g 4, N, Sum.inr (Sum.inr (Sum.inr (Sum.inr f))))) (funext fun j => by show (if hN h = hN h then none else _).map (ga g) = _; rw [if_pos rfl]; rfl))] at hP
  have k := kk p e s m args below meth cd C Q hQ H1 locs (cells + 1) (slots + N) ls hP hS1 hl (by omega) (by omega) (show s.heap.size + (cells + 1) ≤ gb g + (hN h + 1) by omega)
  have e2 : tv g (.ref (hN h)) = .ref (gb g + hN h) := congrArg Value.ref (C.1.1 _ hn)
  have k2 : W p (gl g) e (Mm M) s m args below meth cd H1 locs (cells + 1) (slots + N) Q (F0 m (pc + 3) ls (tv g (.ref (hN h)) :: st.map (tv g))) := k
  rw [e2] at k2
  exact k2 T hT X
/-- a nest mate's constructor -/
theorem ok_callIN {As : List Value} {a : Nat} {host : String} (hd : decode (Mc M) pc = .ok (.invokespecial i, 3)) (hM : MN M' n) (hw : ∀ U, gx g U → va_Nw (.methodLinkNest (My M).cls i (My M') host) U) (hA : As.length = n) (hn : (spl (.ref a :: As)).length ≤ Ml M') (hrm : (Mm M').frames + 1 ≤ (Mm M).frames ∧ 8 + (Ml M' + 11) + (Mm M').locals ≤ (Mm M).locals) (hst : (st.map fun v => v.category).sum ≤ 8) (hb1 : b'.1 + (Mm M').cells = b.1) (hb2 : b'.2 + (Mm M').slots = b.2)
    (K : Sp g M' (.ref a :: As) h (fun r h' => Go g M (pc + 3) lo (psh r st) h' b' Post)) : Go g M pc lo (pus As (.ref a :: st)) h b Post := by
  rw [pus_eq]
  intro p e s m args below meth c C Q hQ H locs cells slots ls hW hS hl h1 h2 hz T hT X
  have hsz := sz_of X hT hW C.2.2.2.2.2.2.2.2.2 hz
  obtain ⟨hMI, hnm, hinst, hret⟩ := hM
  obtain ⟨hpl, hco, hini, hd1, hd2, hd3⟩ := hMI
  have K2 := met_of C.1 ⟨hpl, hco, hini, hd1, hd2, hd3⟩ hn K
  rw [hret] at K2 hco
  refine after_run C hQ hS hl h1 h2 hz hsz hb1 hb2 (va_runIN (b := ga g a) (As := As.map (tv g)) (n := n) ⟨C.2.1, C.2.2.1, C.2.2.2.1, C.2.2.2.2.1, C.2.2.2.2.2.1⟩ K2 ⟨va_cnB n C.2.2.2.2.2.1 (tb_GoodIn (tb_cons hco)) rfl rfl rfl (hw s C.2.2.2.2.2.2.2.2.1) (C.2.2.2.2.2.1 _ hini) ⟨hd1, hd2, hd3⟩ hrm, hnm, C.2.2.2.2.2.1 _ hinst⟩ ⟨En.blind C.1 _, fun U hU hWm => ⟨rfl, by rw [hU]; exact hW, by rw [hU]; exact hsz, va_K.moved hWm.alike C.2.2.2.2.2.2.2.1, C.1.2 s U C.2.2.2.2.2.2.2.2.1 hWm (fun q hq => by rw [hU]; exact hS.2.1 q (Nat.lt_of_lt_of_le hq C.2.2.2.2.2.2.2.2.2) (Nat.not_le.mpr hq))⟩⟩ rfl (by rw [List.length_map]; exact hA) hl.1 (rev_map As (.ref a :: st)) (lv_room (by rw [cat_map]; exact hst)) hd ⟨by omega, by omega⟩) hT X
theorem ok_objInit {a : Nat} (hd : decode (Mc M) pc = .ok (.invokespecial i, 3)) (w1 : Cond.methodLink (My M).cls i Lib.objectInit ∈ tb) (w2 : Cond.instanceMethod Lib.objectInit ∈ tb) (w3 : Cond.code Lib.objectInit ⟨#[0xb1]⟩ 1 none ∈ tb) (hf : 1 ≤ (Mm M).frames) (hlc : (st.map fun v => v.category).sum + 12 ≤ (Mm M).locals) (kk : Go g M (pc + 3) lo st h b Post) : Go g M pc lo (.ref a :: st) h b Post := by
  intro p e s m args below meth cd C Q hQ H locs cells slots ls hW hS hl h1 h2 hz
  refine W.objInit (g := F0 m pc ls (.ref (ga g a) :: st.map (tv g))) C.2.1 C.2.2.1 C.2.2.2.2.1 (C.2.2.2.2.2.1 _ w1) (C.2.2.2.2.2.1 _ w2) (C.2.2.2.2.2.1 _ w3) rfl (by rw [C.2.2.2.1]; exact hl.1) rfl hd hf (by rw [cat_map]; show 2 * 0 + _ + 12 ≤ _; omega) ?_
  exact kk p e s m args below meth cd C Q hQ H locs cells slots ls hW hS hl h1 h2 hz
theorem ok_max {x y : Int32} (hd : decode (Mc M) pc = .ok (.invokestatic i, 3)) (w1 : Cond.methodLink (My M).cls i Lib.Math.max.name ∈ tb) (w2 : Cond.static Lib.Math.max.name ∈ tb) (w3 : Cond.initialized "java/lang/Math" ∈ tb) (w4 : Cond.code Lib.Math.max.name Lib.Math.max.code 2 (some .int) ∈ tb) (hf : 1 ≤ (Mm M).frames) (hlc : (st.map fun v => v.category).sum + 13 ≤ (Mm M).locals) (kk : Go g M (pc + 3) lo (.int (if x < y then y else x) :: st) h b Post) : Go g M pc lo (.int y :: .int x :: st) h b Post := by
  intro p e s m args below meth cd C Q hQ H locs cells slots ls hW hS hl h1 h2 hz
  exact va_mmax C.2.1 C.2.2.1 (C.2.2.2.1.trans hl.1.symm) C.2.2.2.2.1 (C.2.2.2.2.2.1 _ w1) (C.2.2.2.2.2.1 _ w2) (C.2.2.2.2.2.1 _ w3) (C.2.2.2.2.2.1 _ w4) hf (by rw [cat_map]; exact hlc) (by omega) (by omega) hd (kk p e s m args below meth cd C Q hQ H locs cells slots ls hW hS hl h1 h2 hz)
theorem ok_min {x y : Int32} (hd : decode (Mc M) pc = .ok (.invokestatic i, 3)) (w1 : Cond.methodLink (My M).cls i Lib.Math.min.name ∈ tb) (w2 : Cond.static Lib.Math.min.name ∈ tb) (w3 : Cond.initialized "java/lang/Math" ∈ tb) (w4 : Cond.code Lib.Math.min.name Lib.Math.min.code 2 (some .int) ∈ tb) (hf : 1 ≤ (Mm M).frames) (hlc : (st.map fun v => v.category).sum + 13 ≤ (Mm M).locals) (kk : Go g M (pc + 3) lo (.int (if y < x then y else x) :: st) h b Post) : Go g M pc lo (.int y :: .int x :: st) h b Post := by
  intro p e s m args below meth cd C Q hQ H locs cells slots ls hW hS hl h1 h2 hz
  exact va_mmin C.2.1 C.2.2.1 (C.2.2.2.1.trans hl.1.symm) C.2.2.2.2.1 (C.2.2.2.2.2.1 _ w1) (C.2.2.2.2.2.1 _ w2) (C.2.2.2.2.2.1 _ w3) (C.2.2.2.2.2.1 _ w4) hf (by rw [cat_map]; exact hlc) (by omega) (by omega) hd (kk p e s m args below meth cd C Q hQ H locs cells slots ls hW hS hl h1 h2 hz)
theorem ok_abs {x : Int32} (hd : decode (Mc M) pc = .ok (.invokestatic i, 3)) (w1 : Cond.methodLink (My M).cls i Lib.Math.abs.name ∈ tb) (w2 : Cond.static Lib.Math.abs.name ∈ tb) (w3 : Cond.initialized "java/lang/Math" ∈ tb) (w4 : Cond.code Lib.Math.abs.name Lib.Math.abs.code 1 (some .int) ∈ tb) (hf : 1 ≤ (Mm M).frames) (hlc : (st.map fun v => v.category).sum + 13 ≤ (Mm M).locals) (kk : Go g M (pc + 3) lo (.int (if 0 ≤ x then x else 0 - x) :: st) h b Post) : Go g M pc lo (.int x :: st) h b Post := by
  intro p e s m args below meth cd C Q hQ H locs cells slots ls hW hS hl h1 h2 hz
  exact va_mabs C.2.1 C.2.2.1 (C.2.2.2.1.trans hl.1.symm) C.2.2.2.2.1 (C.2.2.2.2.2.1 _ w1) (C.2.2.2.2.2.1 _ w2) (C.2.2.2.2.2.1 _ w3) (C.2.2.2.2.2.1 _ w4) hf (by rw [cat_map]; exact hlc) (by omega) (by omega) hd (kk p e s m args below meth cd C Q hQ H locs cells slots ls hW hS hl h1 h2 hz)
/-- longs copied within one array or from one to another -/
def cpL (h : Hp) (a0 sp a dp n : Nat) : Hp := (h.1, fun q j => if q = a ∧ dp ≤ j ∧ j < dp + n then h.2.1 a0 (sp + (j - dp)) else h.2.1 q j, h.2.2)
theorem ok_copyL {a0 a n0 n1 : Nat} {sp dp k : Int32} (hd : decode (Mc M) pc = .ok (.invokestatic i, 3)) (w1 : Cond.methodLink (My M).cls i arraycopyName ∈ tb) (w2 : Cond.native arraycopyName ∈ tb) (w3 : Cond.static arraycopyName ∈ tb) (w4 : Cond.initialized "java/lang/System" ∈ tb) (ha0 : Is h a0 8 n0) (ha : Is h a 8 n1) (h1' : ¬ sp < 0) (h2' : ¬ dp < 0) (h3' : ¬ k < 0) (h4' : sp.toNatClampNeg + k.toNatClampNeg ≤ n0) (h5' : dp.toNatClampNeg + k.toNatClampNeg ≤ n1) (hf : 1 ≤ (Mm M).frames) (hlc : (st.map fun v => v.category).sum + (nativeFrameWords "java/lang/System" "arraycopy" 5 + 11) ≤ (Mm M).locals)
    (kk : Go g M (pc + 3) lo st (cpL h a0 sp.toNatClampNeg a dp.toNatClampNeg k.toNatClampNeg) b Post) : Go g M pc lo (.int k :: .int dp :: .ref a :: .int sp :: .ref a0 :: st) h b Post := by
  intro p e s m args below meth cd C Q hQ H locs cells slots ls hW hS hl h1 h2 hz
  show W p (gl g) e (Mm M) s m args below meth cd H locs cells slots Q (F0 m pc ls (.int k :: .int dp :: .ref (ga g a) :: .int sp :: .ref (ga g a0) :: st.map (tv g)))
  rw [C.1.1 a ha.2.2, C.1.1 a0 ha0.2.2]
  have hat := wl_at (g := g) ha.1
  rw [ent_8 ha.2.1] at hat
  have hat0 := wl_at (g := g) ha0.1
  rw [ent_8 ha0.2.1] at hat0
  refine va_copyl (D := gD g) (ty := .long) C.2.1 C.2.2.1 (C.2.2.2.1.trans hl.1.symm) C.2.2.2.2.1 (C.2.2.2.2.2.1 _ w1) (C.2.2.2.2.2.1 _ w2) (C.2.2.2.2.2.1 _ w3) (C.2.2.2.2.2.1 _ w4) C.2.2.2.2.2.2.2.1 hW (wl_D g h) hS a0 a 2 2 hat0 hat rfl rfl rfl h1' h2' h3' h4' h5' (fun _ _ => rfl) hf (by rw [cat_map]; exact hlc) hd (fun H1 locs1 hP _ hS1 => ?_)
  refine kk p e s m args below meth cd C Q hQ H1 locs1 cells slots ls (Wd.upd ha.1 rfl (fun j hj => ent_congr rfl (funext fun _ => if_neg (fun q => hj q.1)) rfl rfl) ?_ hP) hS1 hl h1 h2 hz
  rw [ent_8 (h := cpL h a0 sp.toNatClampNeg a dp.toNatClampNeg k.toNatClampNeg) ha.2.1]
  refine congrArg (fun f => Sum.inl (gc g 2, n1, Sum.inr (Sum.inl f))) (funext fun j => ?_)
  show (if a = a ∧ dp.toNatClampNeg ≤ j ∧ j < dp.toNatClampNeg + k.toNatClampNeg then h.2.1 a0 (sp.toNatClampNeg + (j - dp.toNatClampNeg)) else h.2.1 a j) = va_cpy _ _ _ _ _ j
  by_cases hj : dp.toNatClampNeg ≤ j ∧ j < dp.toNatClampNeg + k.toNatClampNeg
  · rw [if_pos ⟨rfl, hj⟩, pk_cpy_in hj.1 hj.2]
  · rw [if_neg (fun q => hj q.2), pk_cpy_out (by omega)]
end NewRows
