/-! ===== the world at the start ===== -/
theorem hasRoom_less {s : State} {pl : Platform} {r r' : Room} (hf : r.frames ≤ r'.frames) (hl : r.locals ≤ r'.locals) (hc : r.cells ≤ r'.cells) (hs : r.slots ≤ r'.slots) (h : s.hasRoom pl r' = true) : s.hasRoom pl r = true := by
  simp only [State.hasRoom, Bool.and_eq_true, decide_eq_true_eq] at h ⊢
  obtain ⟨⟨⟨⟨y, a, b, c, d, e⟩, f⟩, g⟩, i⟩ := h
  exact ⟨⟨⟨⟨by omega, by omega, by omega, by omega, by omega, e⟩, by omega⟩, by omega⟩, i⟩
theorem W_less {p : Program} {l : Launch} {e : Env} {R R' : Room} {s : State} {m : MethodId} {args : Array Value} {below : List Frame} {meth : Method} {c : Code} {H : Heap} {locs : List Loc} {cells slots : Nat} {Q : State → Prop} {gg : JFrame} (hf : R'.frames ≤ R.frames) (hl : R'.locals ≤ R.locals) (hc : R'.cells ≤ R.cells) (hs : R'.slots ≤ R.slots) (k : W p l e R' s m args below meth c H locs cells slots Q gg) : W p l e R s m args below meth c H locs cells slots Q gg :=
  fun T hT X => k T hT ⟨X.admits, X.cas, X.clock, X.frames, hasRoom_less hf hl hc hs X.room, X.hears, X.method, X.code, X.here, X.tail, X.warmed, X.limits, X.bytes, X.same⟩
theorem lw_retR {R : Room} {p : Program} {l : Launch} {e : Env} {s : State} {m : MethodId} {below : List Frame} {meth : Method} {c : Code} {b : Nat} (hx : p.tables.exec = Jvm.exec) (hb : c.code = code) (hr : meth.sig.returnType = ret) (hlocks : meth.locks = false) {pc : Nat} {H : Heap} {ls : Array Slot} (hdg : decode code pc = .ok (.ireturn, 1)) : W p l e R s m #[Value.ref b] below meth c H [] 600000 7302250 (lw_Z below #[Value.ref b] s) (F0 m pc ls [.int 1]) := by
  intro T hT X
  obtain ⟨fs, hret, hrun, hended, hW, hframe⟩ := X.leave (v := some (.int 1)) (hlocks := hlocks) (fun h => by rw [hr] at h; cases h)
  have hmeth' : T.vm.method? m = some meth := X.method'
  refine ⟨T.setFrames fs, ?_, .returned (some (.int 1)), hrun, hended, rfl, ⟨_, rfl⟩, hW, hframe⟩
  jvm_step X.here [X.here.top, hx, hb, hdg, hmeth', hr, ret, narrow_b1]
  (try refine ⟨rfl, ?_⟩); (try refine ⟨rfl, ?_⟩)
  first | (intro acts; rw [hret _ acts rfl rfl rfl]) | rw [hret _ _ rfl rfl rfl]
  exact Steps.refl _
theorem ins_c : ∀ {c : Nat}, c < 6 → Cond.instantiable (Rc c) (Nc c) ∈ tb
  | 0, _ => w_94
  | 1, _ => w_205
  | 2, _ => w_87
  | 3, _ => w_177
  | 4, _ => w_79
  | 5, _ => w_770
  | c + 6, h => absurd h (by omega)
theorem vw_lt {c : Nat} {q : vw_C} (h : vwCl[c]? = some q) : c < 6 := (List.getElem?_eq_some_iff.mp h).1
/-- classes and slots -/
theorem mk_D {s : State} {args : Array Value} (htb : ∀ w ∈ tb, w.before args s = true) : ∃ D : va_G, ∀ (c : Nat) (q : vw_C), vwCl[c]? = some q → u_Kn s q.1 q.2.1 q.2.2 (D.1 c) (D.2 c) := by
  have h0 : ∀ c : Nat, ∃ q : ClassId × (Nat → Nat), c < 6 → u_Kn s (Rc c) (Tc c) (Nc c) q.1 q.2 := by
    intro c
    by_cases hc : c < 6
    · obtain ⟨cC, iS, h⟩ := u_known (C := Rc c) (T := Tc c) (N := Nc c) (n := Nc c) htb (in_c hc) (htb _ (ins_c hc))
      exact ⟨(cC, iS), fun _ => h⟩
    · exact ⟨(0, fun _ => 0), fun h => absurd h hc⟩
  obtain ⟨d, hd⟩ := Classical.axiomOfChoice h0
  refine ⟨(fun c => (d c).1, fun c => (d c).2), fun c q hq => ?_⟩
  have hc := vw_lt hq
  rw [cl_at hc] at hq
  cases hq
  exact hd c hc
theorem mk_A {s : State} {args : Array Value} {ty : FieldType} (ht : ty = .byte ∨ ty = .int ∨ ty = .long) (h : (Cond.arrayClass ty).before args s = true) : ∃ cA : ClassId, ArrOfT s cA ty ∧ va_RA s cA ty := by
  obtain ⟨c, k, comp, h1, h2, h3⟩ := Cond.arrayClass_spec h
  refine ⟨c, fun n z => ⟨fun k h => (by cases h), k, h2, comp, h3⟩, ?_⟩
  rcases ht with rfl | rfl | rfl <;> exact h1
theorem mk_O {s : State} {args : Array Value} {C : String} (h : (Cond.arrayOver (.object C)).before args s = true) : ∃ cA : ClassId, ArrOfT s cA (.object C) ∧ va_RA s cA (.object C) := by
  obtain ⟨comp, c, k, h1, -, h2, h3, h4⟩ := Cond.arrayOver_spec h
  exact ⟨c, fun n z => ⟨fun k h => (by cases h), k, h2, comp, h3⟩, k, comp, h2, h3, h1, h4⟩
theorem X_stay {b L : Nat} {xs : Nat → Int32} {s U : State} (h : va_X b L xs s s.heap) (hW : s.WarmedH U.vm) (hq : U.heap[b]? = s.heap[b]?) : va_X b L xs U U.heap := by
  obtain ⟨scr, h1, h2, h3, h4, h5⟩ := h
  exact ⟨scr, by rw [hq]; exact h1, State.isArrayOf_alike hW.alike h2, h3, h4, h5⟩
/-- what the statement gives, as a world -/
theorem mk_g {s : State} (l : Launch) {b L : Nat} {xs : Nat → Int32} (hts : ∀ w ∈ lw_tbl, w.before #[Value.ref b] s = true) (hX : va_X b L xs s s.heap) (hbl : b < s.heap.size) (hgv : (Jvm.Cond.and given_1 narrow_1).before #[Value.ref b] s = true) :
    ∃ g : GG, gl g = l ∧ gb g = s.heap.size ∧ ga g 5000 = b ∧ GOk g ∧ va_K (gD g) vwCl (gty g) s ∧ gx g s ∧ Gx g ∧ Sx g L xs := by
  have htb : ∀ w ∈ tb, w.before #[Value.ref b] s = true := fun w hw => hts w (List.mem_filter.mp hw).1
  have hfl := flat_of_before _ hgv
  have hs : ∀ {w : Cond} {k : Nat}, fl0[k]? = some w → w.before #[Value.ref b] s = true := fun h => hfl _ (List.mem_of_getElem? h)
  have hA : ∀ a : Nat, a < s.heap.size → ¬ (fun q : Nat => s.heap.size ≤ q) a := fun a ha => Nat.not_le.mpr ha
  obtain ⟨D, hD⟩ := mk_D htb
  obtain ⟨c0, a0, r0⟩ := mk_A (Or.inl rfl) (htb _ w_202)
  obtain ⟨c1, a1, r1⟩ := mk_A (Or.inr (Or.inl rfl)) (htb _ w_138)
  obtain ⟨c2, a2, r2⟩ := mk_A (Or.inr (Or.inr rfl)) (htb _ w_223)
  obtain ⟨c3, a3, r3⟩ := mk_O (hts _ w_93)
  obtain ⟨c4, a4, r4⟩ := mk_O (hts _ w_204)
  obtain ⟨t, tv1, tT⟩ := va_Tof (tm := .static "CoinFountain" "ABOVE" "[I") (ty := .int) (N := 6) (f := fun j => .int (abL.getD j 0)) (A := fun q : Nat => s.heap.size ≤ q) (by decide) (hs fl_a) (va_eqt (hs fl_l)) (fun j hj => va_eqt (hs (fl_B j hj))) hA
  obtain ⟨adK, adV, hS, ev⟩ := vk_Sof (tm := fun i => Term.string "CoinFountain$Text" (stI.getD i 0)) (N := 15) (len := stN) (byt := stB) (A := fun q : Nat => s.heap.size ≤ q) (fun i hi => Nat.lt_trans (st_lt i hi) (by decide)) (fun i hi => hs (fl_X i hi)) (fun i hi => hs (fl_C i hi)) (fun i hi => hs (fl_A i hi)) (fun i hi => hs (fl_L i hi)) (fun i hi j hj => hs (fl_E i hi j hj)) (fun i j hi hj hij => by
    rcases Nat.lt_or_gt_of_ne hij with h | h
    · exact Or.inl (hs (fl_N i hi j hj h))
    · exact Or.inr (hs (fl_N j hj i hi h))) hA
  obtain ⟨f0, f1, hF⟩ : ∃ f0 f1 : Nat, va_Z "jdk/internal/util/Preconditions" "SIOOBE_FORMATTER" "Ljava/util/function/BiFunction;" (if f1 = 0 then .null else .ref f0) (fun q : Nat => s.heap.size ≤ q) s s.heap := by
    rcases va_Zqof (A := fun q : Nat => s.heap.size ≤ q) (hts _ w_616) (htb _ w_75) (hs fl_f) hA with h | ⟨t, h⟩
    · exact ⟨0, 0, h⟩
    · exact ⟨t, 1, h⟩
  have sr : ∀ i, i < 15 → vk_R RX3 (stI.getD i 0) (stT.getD i "") (adK i) s := fun i hi => match i, hi with
    | 0, _ => vk_R.of (hts _ w_581) (ev 0 (by decide))
    | 1, _ => vk_R.of (hts _ w_582) (ev 1 (by decide))
    | 2, _ => vk_R.of (hts _ w_583) (ev 2 (by decide))
    | 3, _ => vk_R.of (hts _ w_584) (ev 3 (by decide))
    | 4, _ => vk_R.of (hts _ w_585) (ev 4 (by decide))
    | 5, _ => vk_R.of (hts _ w_586) (ev 5 (by decide))
    | 6, _ => vk_R.of (hts _ w_644) (ev 6 (by decide))
    | 7, _ => vk_R.of (hts _ w_653) (ev 7 (by decide))
    | 8, _ => vk_R.of (hts _ w_654) (ev 8 (by decide))
    | 9, _ => vk_R.of (hts _ w_655) (ev 9 (by decide))
    | 10, _ => vk_R.of (hts _ w_660) (ev 10 (by decide))
    | 11, _ => vk_R.of (hts _ w_665) (ev 11 (by decide))
    | 12, _ => vk_R.of (hts _ w_671) (ev 12 (by decide))
    | 13, _ => vk_R.of (hts _ w_672) (ev 13 (by decide))
    | 14, _ => vk_R.of (hts _ w_673) (ev 14 (by decide))
    | i + 15, h => absurd h (by omega)
  generalize hga : (fun k : Nat => if k < 1000 then s.heap.size + k else if k = 2000 then t else if k = 5000 then b else if k = 6000 then f0 else if k = 6001 then f1 else if k < 4000 then adK (k - 3000) else adV (k - 4000)) = gaf
  have e1000 : ∀ k, k < 1000 → gaf k = s.heap.size + k := fun k hk => by rw [← hga]; exact if_pos hk
  have e2000 : gaf 2000 = t := by rw [← hga]; rfl
  have e5000 : gaf 5000 = b := by rw [← hga]; rfl
  have e6000 : gaf 6000 = f0 := by rw [← hga]; rfl
  have e6001 : gaf 6001 = f1 := by rw [← hga]; rfl
  have eK : ∀ i, i < 15 → gaf (3000 + i) = adK i := fun i hi => by
    rw [← hga]
    show (if 3000 + i < 1000 then _ else if 3000 + i = 2000 then _ else if 3000 + i = 5000 then _ else if 3000 + i = 6000 then _ else if 3000 + i = 6001 then _ else if 3000 + i < 4000 then adK (3000 + i - 3000) else _) = _
    rw [if_neg (by omega), if_neg (by omega), if_neg (by omega), if_neg (by omega), if_neg (by omega), if_pos (by omega), Nat.add_sub_cancel_left]
  have eV : ∀ i, i < 15 → gaf (4000 + i) = adV i := fun i hi => by
    rw [← hga]
    show (if 4000 + i < 1000 then _ else if 4000 + i = 2000 then _ else if 4000 + i = 5000 then _ else if 4000 + i = 6000 then _ else if 4000 + i = 6001 then _ else if 4000 + i < 4000 then _ else adV (4000 + i - 4000)) = _
    rw [if_neg (by omega), if_neg (by omega), if_neg (by omega), if_neg (by omega), if_neg (by omega), if_neg (by omega), Nat.add_sub_cancel_left]
  let g1 : GG := (l, D, fun k => if k = 0 then c0 else if k = 1 then c1 else if k = 2 then c2 else if k = 3 then c3 else c4, gaf, s.heap.size, fun _ => True)
  have hXF : XF g1 s := by
    refine ⟨?_, ?_, ?_, fun i hi => ?_, ?_, ?_, va_AO.of (hts _ w_93), va_AO.of (hts _ w_204), va_Nw.of rfl (hts _ w_95), va_Nw.of rfl (hts _ w_178), va_Nw.of rfl (hts _ w_206)⟩
    · show va_Z "CoinFountain" "ABOVE" "[I" (.ref (gaf 2000)) (fun q : Nat => s.heap.size ≤ q) s s.heap
      rw [e2000]
      exact va_Zof (hts _ w_317) (htb _ w_65) tv1 hA
    · show va_T .int (gaf 2000) 6 (fun j => .int (abL.getD j 0)) (fun q : Nat => s.heap.size ≤ q) s s.heap
      rw [e2000]
      exact tT
    · show vk_S 15 stN stB (fun i => gaf (3000 + i)) (fun i => gaf (4000 + i)) (fun q : Nat => s.heap.size ≤ q) s s.heap
      refine ⟨fun i hi => ?_, fun i j hi hj e => hS.2 i j hi hj (by rw [← eK i hi, ← eK j hj]; exact e)⟩
      have q := hS.1 i hi
      rw [← eK i hi, ← eV i hi] at q
      exact q
    · show vk_R RX3 (stI.getD i 0) (stT.getD i "") (gaf (3000 + i)) s
      rw [eK i hi]
      exact sr i hi
    · exact va_Zof (hts _ w_600) (htb _ w_73) (va_eqt (hs fl_c)) hA
    · have ef : tv g1 (fm g1) = if f1 = 0 then .null else .ref f0 := by
        show tv g1 (if gaf 6001 = 0 then .null else .ref 6000) = _
        rw [e6001]
        by_cases c : f1 = 0
        · rw [if_pos c, if_pos c]; rfl
        · rw [if_neg c, if_neg c]
          show Value.ref (gaf 6000) = _
          rw [e6000]
      rw [ef]
      exact hF
  refine ⟨(l, D, fun k => if k = 0 then c0 else if k = 1 then c1 else if k = 2 then c2 else if k = 3 then c3 else c4, gaf, s.heap.size, fun U => s.heap.size ≤ U.heap.size ∧ XF g1 U ∧ va_X b L xs U U.heap), rfl, rfl, e5000, ⟨e1000, fun s' U h hW hq => ?_⟩, ⟨hD, fun k q hq => ?_⟩, ⟨Nat.le_refl _, hXF, hX⟩, fun U h => h.2.1, by show gaf 5000 < s.heap.size; rw [e5000]; exact hbl, fun U h => by show va_X (gaf 5000) L xs U U.heap; rw [e5000]; exact h.2.2⟩
  · obtain ⟨h1, h2, h3⟩ := h
    have hq : ∀ q : Nat, q < s.heap.size → U.heap[q]? = s'.heap[q]? := hq
    refine ⟨?_, XF.stay (g := g1) h2 hW h1 hq, X_stay h3 hW (hq b hbl)⟩
    have e := hq (s.heap.size - 1) (by omega)
    rw [Array.getElem?_eq_getElem (show s.heap.size - 1 < s'.heap.size by omega)] at e
    have := (Array.getElem?_eq_some_iff.mp e).1
    omega
  · match k, hq with
    | 0, hq => cases hq; exact ⟨a0, r0⟩
    | 1, hq => cases hq; exact ⟨a1, r1⟩
    | 2, hq => cases hq; exact ⟨a2, r2⟩
    | 3, hq => cases hq; exact ⟨a3, r3⟩
    | 4, hq => cases hq; exact ⟨a4, r4⟩
    | k + 5, hq => cases hq
/-- YOUR PART: from the entry, for every script of at most 3072 ints, the law comes to its end with true -/
theorem whole_start {p : Program} {e : Env} {s : State} {m : MethodId} {below : List Frame} {meth : Method} {c : Code} (l : Launch) (hflags : l.flags = flags0) {b L : Nat} {xs : Nat → Int32} (hL : L ≤ 3072) (C0 : lw_At p s m meth c b L xs) : W p l e room_1 s m #[Value.ref b] below meth c s.heap [] 0 0 (lw_Z below #[Value.ref b] s) (entryFrame m ([Value.ref b] : List Value).toArray 4) := by
  obtain ⟨hx, hb, hr, hml, hown, hts, hX, hbl, hlocks, hgv⟩ := id C0
  have htb : ∀ w ∈ tb, w.before #[Value.ref b] s = true := fun w hw => hts w (List.mem_filter.mp hw).1
  obtain ⟨g, e1, e2, e3, hG, hK, hgx, X, Xs⟩ := mk_g l hts hX hbl hgv
  subst e1
  have K0 := law_start (g := g) (nm := meth.name) (Post := fun r _ => r = some (.int 1)) Xs X hL (fun _ => rfl)
  have C : Cx g (mLaw meth.name) p s m #[Value.ref b] meth c := ⟨hG, hx, hb, hml, hown, htb, rfl, hK, hgx, by rw [e2]; exact Nat.le_refl _⟩
  have hRt : Rt g (mLaw meth.name) (fun r _ => r = some (.int 1)) p e s m #[Value.ref b] below meth c (lw_Z below #[Value.ref b] s) := by
    intro r h H locs cells slots pc ls hp hW hS hc hsl hz hret
    have hp : r = some (.int 1) := hp
    subst hp
    have hc : cells = 62 := hc
    have hsl : slots ≤ 1264 := hsl
    obtain ⟨-, hd⟩ := hret
    refine va_forget (fun q hq => by have := hS.2.2 q hq; rw [e2] at this; exact this) ?_
    refine W.widen (k := 600000) (n := 7302250) (by omega) (by omega) ?_
    exact lw_retR hx hb hr hlocks hd
  have hl := lo0_has (g := g) (n := 4) (As := [.ref 5000]) (by decide)
  have ev : ([Value.ref 5000] : List Value).map (tv g) = [Value.ref b] := by
    show [Value.ref (ga g 5000)] = _
    rw [e3]
  rw [ev] at hl
  rw [lg_entry_eq]
  have hW0 : Wd g (Zh (fun _ _ => none) (fun _ => (99, 0)) 0) s.heap := fun k q hq => by cases hq
  exact W_less (R' := (Mm (mLaw meth.name))) (Nat.le_of_ble_eq_true rfl) (Nat.le_of_ble_eq_true rfl) (Nat.le_of_ble_eq_true rfl) (Nat.le_of_ble_eq_true rfl) (K0 p e s m #[Value.ref b] below meth c C _ hRt s.heap [] 0 0 _ hW0 va_S.rf hl rfl (Nat.le_refl _) (by rw [e2]; exact Nat.le_refl _))
