/-! ===== calls: a spec gives a contract of the machine, a contract a step of Go ===== -/
/-- the state at a method's entry -/
def En (g : GG) (h : Hp) (U : State) : Prop := Wd g h U.heap ∧ U.heap.size = gb g + hN h ∧ va_K (gD g) vwCl (gty g) U ∧ gx g U
def QQ (g : GG) (Post : Option Value → Hp → Prop) (mc : Nat) : Array Value → State → Outcome → State → Prop := fun _ st oc t => ∃ (r : Option Value) (h : Hp), oc = .returned (r.map (tv g)) ∧ Post r h ∧ Wd g h t.heap ∧ va_F (fun q => gb g ≤ q) st t ∧ st.heap.size + mc ≤ gb g + hN h
theorem En.blind {g : GG} (hG : GOk g) {h : Hp} (As : List Value) : FrameBlind (va_Pc As (En g h)) := by
  intro a U fr mk q
  obtain ⟨q0, q1, q2, q3, q4⟩ := q
  exact ⟨q0, q1, q2, va_K.moved (u := U) (U := U.calling fr mk a) (Vm.Alike.refl U.vm) q3, hG.2 U _ q4 (State.WarmedH.refl U) (fun _ _ => rfl)⟩
theorem lo0_entry {g : GG} {n : Nat} : ∀ (As : List Value) (k : Nat) (pre : List (Option Value)), pre.length = k → ∀ (m : Nat), ∀ q ∈ asc g (pre ++ (spl As ++ List.replicate m none)), q ∈ asc g (pre) ∨ q ∈ lv_args k (As.map (tv g))
  | [], k, pre, hk, m => by
    intro q hq
    left
    obtain ⟨v, h1, h2⟩ := mem_asc.mp hq
    refine mem_asc.mpr ⟨v, ?_, h2⟩
    by_cases hl : q.1 < pre.length
    · rw [List.getElem?_append_left hl] at h1
      exact h1
    · rw [List.getElem?_append_right (by omega)] at h1
      simp only [spl, List.nil_append] at h1
      have hm := List.mem_of_getElem? h1
      have := (List.mem_replicate.mp hm).2
      cases this
  | v :: l, k, pre, hk, m => by
    intro q hq
    have one : ∀ (v : Value), v.category = 1 → spl (v :: l) = some v :: spl l → q ∈ asc g (pre ++ (spl (v :: l) ++ List.replicate m none)) → q ∈ asc g pre ∨ q ∈ lv_args k ((v :: l).map (tv g)) := by
      intro v hc hs hq
      rw [hs] at hq
      have e : pre ++ (some v :: spl l ++ List.replicate m none) = (pre ++ [some v]) ++ (spl l ++ List.replicate m none) := by simp
      rw [e] at hq
      have hn : ¬ (tv g v).category = 2 := by rw [tv_cat, hc]; decide
      rcases lo0_entry (n := n) l (k + 1) (pre ++ [some v]) (by simp [hk]) m q hq with h | h
      · obtain ⟨w, h1, h2⟩ := mem_asc.mp h
        by_cases hl : q.1 < pre.length
        · rw [List.getElem?_append_left hl] at h1
          exact Or.inl (mem_asc.mpr ⟨w, h1, h2⟩)
        · rw [List.getElem?_append_right (by omega)] at h1
          have hq0 : q.1 - pre.length = 0 := by
            have := (List.getElem?_eq_some_iff.mp h1).1
            simp at this
            omega
          rw [hq0] at h1
          cases h1
          right
          have hqq : q = (k, tv g v) := Prod.ext (by show q.1 = k; omega) h2
          rw [hqq]
          exact List.mem_cons_self
      · right
        show q ∈ (k, tv g v) :: lv_args (if (tv g v).category = 2 then k + 2 else k + 1) (l.map (tv g))
        rw [if_neg hn]
        exact List.mem_cons_of_mem _ h
    have two : ∀ (v : Value), v.category = 2 → spl (v :: l) = some v :: none :: spl l → q ∈ asc g (pre ++ (spl (v :: l) ++ List.replicate m none)) → q ∈ asc g pre ∨ q ∈ lv_args k ((v :: l).map (tv g)) := by
      intro v hc hs hq
      rw [hs] at hq
      have e : pre ++ (some v :: none :: spl l ++ List.replicate m none) = (pre ++ [some v, none]) ++ (spl l ++ List.replicate m none) := by simp
      rw [e] at hq
      have hn : (tv g v).category = 2 := by rw [tv_cat, hc]
      rcases lo0_entry (n := n) l (k + 2) (pre ++ [some v, none]) (by simp [hk]) m q hq with h | h
      · obtain ⟨w, h1, h2⟩ := mem_asc.mp h
        by_cases hl : q.1 < pre.length
        · rw [List.getElem?_append_left hl] at h1
          exact Or.inl (mem_asc.mpr ⟨w, h1, h2⟩)
        · rw [List.getElem?_append_right (by omega)] at h1
          have hq2 : q.1 - pre.length < 2 := by
            have := (List.getElem?_eq_some_iff.mp h1).1
            simpa using this
          rcases (show q.1 - pre.length = 0 ∨ q.1 - pre.length = 1 by omega) with hq0 | hq0
          · rw [hq0] at h1
            cases h1
            right
            have hqq : q = (k, tv g v) := Prod.ext (by show q.1 = k; omega) h2
            rw [hqq]
            exact List.mem_cons_self
          · rw [hq0] at h1
            cases h1
      · right
        show q ∈ (k, tv g v) :: lv_args (if (tv g v).category = 2 then k + 2 else k + 1) (l.map (tv g))
        rw [if_pos hn]
        exact List.mem_cons_of_mem _ h
    cases v with
    | long x => exact two (.long x) rfl rfl hq
    | double x => exact two (.double x) rfl rfl hq
    | int x => exact one (.int x) rfl rfl hq
    | float x => exact one (.float x) rfl rfl hq
    | null => exact one .null rfl rfl hq
    | ref a => exact one (.ref a) rfl rfl hq
    | retAddr p => exact one (.retAddr p) rfl rfl hq
theorem sl_len {g : GG} : ∀ As : List Value, (lg_sl (As.map (tv g))).length = (spl As).length
  | [] => rfl
  | v :: l => by
    have ih := sl_len (g := g) l
    cases v with
    | long x => show ([Slot.val (.long x), Slot.second] ++ lg_sl (l.map (tv g))).length = (some (.long x) :: none :: spl l).length; rw [List.length_append, ih]; simp; omega
    | double x => show ([Slot.val (.double x), Slot.second] ++ lg_sl (l.map (tv g))).length = (some (.double x) :: none :: spl l).length; rw [List.length_append, ih]; simp; omega
    | int x => show ([Slot.val (.int x)] ++ lg_sl (l.map (tv g))).length = (some (.int x) :: spl l).length; rw [List.length_append, ih]; simp; omega
    | float x => show ([Slot.val (.float x)] ++ lg_sl (l.map (tv g))).length = (some (.float x) :: spl l).length; rw [List.length_append, ih]; simp; omega
    | null => show ([Slot.val .null] ++ lg_sl (l.map (tv g))).length = (some .null :: spl l).length; rw [List.length_append, ih]; simp; omega
    | ref x => show ([Slot.val (.ref (ga g x))] ++ lg_sl (l.map (tv g))).length = (some (.ref x) :: spl l).length; rw [List.length_append, ih]; simp; omega
    | retAddr x => show ([Slot.val (.retAddr x)] ++ lg_sl (l.map (tv g))).length = (some (.retAddr x) :: spl l).length; rw [List.length_append, ih]; simp; omega
theorem lo0_has {g : GG} {n : Nat} {As : List Value} (hn : (spl As).length ≤ n) : lv_has ((lg_sl (As.map (tv g)) ++ List.replicate (n - (lg_sl (As.map (tv g))).length) Slot.unset).toArray) n (asc g (lo0 n As)) := by
  refine lv_mono (lv_entry (As.map (tv g)) (by rw [sl_len]; exact hn)) (fun q hq => ?_)
  rcases lo0_entry (g := g) (n := n) As 0 [] rfl (n - (spl As).length) q hq with h | h
  · obtain ⟨v, h1, -⟩ := mem_asc.mp h
    simp at h1
  · exact h
/-- a spec is a contract of the machine -/
theorem met_of {g : GG} (hG : GOk g) {M : MM} {n : Nat} (hM : MI M n) {As : List Value} (hn : (spl As).length ≤ Ml M) {h : Hp} {Post : Option Value → Hp → Prop} (K : Sp g M As h Post) :
    Met (gl g) (My M) (Cond.code (My M) (Mc M) (Ml M) (Mr M) :: tb) (Mm M) (va_Pc (As.map (tv g)) (En g h)) (QQ g Post (Mm M).cells) (Mm M).cells (Mm M).slots (fun q => gb g ≤ q) := by
  refine Met.ofW (cc := Mc M) (maxL := Ml M) (ret := Mr M) hM.1 rfl ?_
  intro p e s m args below meth c s₁ B hml hv
  obtain ⟨rfl, hW, hsz, hK, hX⟩ := hv
  have hts := atoms_spec (ws := Cond.code (My M) (Mc M) (Ml M) (Mr M) :: tb) B.pre
  have hlocks := B.notSynchronized
  have hr := B.returns
  have C : Cx g M p s m (As.map (tv g)).toArray meth c := ⟨hG, B.exec, B.bytes, hml, findClass_of_methodNamed B.named, fun w hw => hts w (List.mem_cons_of_mem _ hw), (name_of_methodNamed B.named B.method).1, hK, hX, by rw [hsz]; exact Nat.le_add_right _ _⟩
  have hRt : Rt g M Post p e s m (As.map (tv g)).toArray below meth c (MQ below (QQ g Post (Mm M).cells) (As.map (tv g)).toArray s (Mm M).cells (Mm M).slots (fun q => gb g ≤ q)) := by
    intro r h2 H locs cells slots pc ls hp hW2 hS hc hs hz hret
    subst hc
    refine W.widen (k := (Mm M).cells) (n := (Mm M).slots) (Nat.le_refl _) hs ?_
    have fin : ∀ t : State, t.heap = H → s.WarmedH t.vm → QQ g Post (Mm M).cells (As.map (tv g)).toArray s (.returned (r.map (tv g))) t := fun t ht _ => ⟨r, h2, rfl, hp, by rw [ht]; exact hW2, hS.F ht, hz⟩
    match r, hret, fin with
    | none, hret, fin => exact W.vret C.2.1 C.2.2.1 (hr.trans hret.1) fin hS.2.2 hret.2
    | some (.int x), hret, fin =>
      obtain ⟨⟨ty, h3, h4⟩, h5⟩ := hret
      exact W.zret C.2.1 C.2.2.1 (hr.trans h3) h4 fin hS.2.2 h5
    | some (.long x), hret, fin => exact W.lret C.2.1 C.2.2.1 (hr.trans hret.1) fin hS.2.2 hret.2
    | some (.ref x), hret, fin =>
      obtain ⟨⟨nm, h3⟩, h5⟩ := hret
      exact W.aret C.2.1 C.2.2.1 (hr.trans h3) (Or.inl ⟨nm, rfl⟩) (Or.inr ⟨_, rfl⟩) fin hS.2.2 h5
  rw [lg_entry_eq]
  exact K p e s m (As.map (tv g)).toArray below meth c C _ hRt s.heap [] 0 0 _ hW va_S.rf (lo0_has hn) (Nat.zero_add _) (Nat.le_of_eq (Nat.zero_add _)) (by rw [hsz]; exact Nat.le_refl _)
section CallRows
variable {g : GG} {M M' : MM} {pc i n : Nat} {lo : List (Option Value)} {st : List Value} {h : Hp} {b b' : Nat × Nat} {Post : Option Value → Hp → Prop}
/-- behind a call -/
theorem after_run {p : Program} {e : Env} {s : State} {m : MethodId} {args : Array Value} {below : List Frame} {meth : Method} {c : Code} {H : Heap} {locs : List Loc} {cells slots : Nat} {Q : State → Prop} {ls : Array Slot} {st0 : List Value} {a : Array Value} {T : State}
    (C : Cx g M p s m args meth c) (hQ : Rt g M Post p e s m args below meth c Q) (hS : va_S (fun q => gb g ≤ q) s.heap H locs) (hl : lv_has ls (Ml M) (asc g lo)) (h1 : cells + b.1 = (Mm M).cells) (h2 : slots + b.2 ≤ (Mm M).slots) (hz : s.heap.size + cells ≤ gb g + hN h) (hsz : H.size = gb g + hN h)
    (hb1 : b'.1 + (Mm M').cells = b.1) (hb2 : b'.2 + (Mm M').slots = b.2)
    (hr : va_Run p (gl g) e (Mm M) s m args below meth c H locs cells slots (Mm M').cells (Mm M').slots (F0 m pc ls st0) (st.map (tv g)) (QQ g (fun r h' => Go g M (pc + 3) lo (psh r st) h' b' Post) (Mm M').cells a) (fun q => gb g ≤ q)) (hT : T.heap = H) (X : Stand p (gl g) e (Mm M) s m args below meth c T locs cells slots) :
    ∃ t, Steps p.tables e below (T.setTop (F0 m pc ls st0)) t ∧ Q t := by
  obtain ⟨v, st₀, t, T', L, e0, X', hL, e1, e2, ⟨r, h', hv, hgo, hW', hF, hz'⟩, stp⟩ := hr T hT X
  cases hv
  rw [e0] at hz'
  obtain ⟨hz1, hk⟩ := hF
  rw [e0] at hz1 hk
  have hS' : va_S (fun q => gb g ≤ q) s.heap T'.heap (locs ++ L) := ⟨Nat.le_trans hS.1 (by rw [e1]; exact hz1), fun q h3 h4 => by rw [e1, hk q (Nat.lt_of_lt_of_le h3 hS.1) h4]; exact hS.2.1 q h3 h4, fun q hq => by
    rcases List.mem_append.mp hq with h5 | h5
    · exact hS.2.2 q h5
    · exact hL q h5⟩
  have hst : (r.map (tv g)).toList ++ st.map (tv g) = (psh r st).map (tv g) := by cases r <;> rfl
  have k := hgo p e s m args below meth c C Q hQ T'.heap (locs ++ L) (cells + (Mm M').cells) (slots + (Mm M').slots) ls (by rw [e1]; exact hW') hS' hl (by omega) (by omega) (by omega)
  obtain ⟨t2, a1, b1⟩ := k T' rfl X'
  rw [← hst] at a1
  exact ⟨t2, stp t2 a1, b1⟩
theorem cat_map {g : GG} (st : List Value) : ((st.map (tv g)).map fun v => v.category) = st.map fun v => v.category := by
  rw [List.map_map]
  exact List.map_congr_left (fun v _ => tv_cat g v)
theorem rev_map {g : GG} (As st : List Value) : (As.reverse ++ st).map (tv g) = (As.map (tv g)).reverse ++ st.map (tv g) := by simp
theorem tb_GoodIn {ws : List Cond} (h : ∀ w ∈ ws, w ∈ tb) : GoodIn tb ws := fun w hw => ⟨h w hw, tb_good (h w hw)⟩
theorem tb_cons {w : Cond} (h : w ∈ tb) : ∀ v ∈ w :: tb, v ∈ tb := fun v hv => (List.mem_cons.mp hv).elim (fun e => e ▸ h) id
/-- push a call's arguments -/
def pus : List Value → List Value → List Value
  | [], st => st
  | v :: l, st => pus l (v :: st)
theorem pus_eq : ∀ (As st : List Value), pus As st = As.reverse ++ st
  | [], st => rfl
  | v :: l, st => by rw [pus, pus_eq l (v :: st)]; simp
theorem ok_callS {As : List Value} (hd : decode (Mc M) pc = .ok (.invokestatic i, 3)) (hM : MS M' n) (hw : Cond.methodLink (My M).cls i (My M') ∈ tb) (hA : As.length = n) (hn : (spl As).length ≤ Ml M') (hrm : (Mm M').frames + 1 ≤ (Mm M).frames ∧ 8 + (Ml M' + 11) + (Mm M').locals ≤ (Mm M).locals) (hst : (st.map fun v => v.category).sum ≤ 8) (hb1 : b'.1 + (Mm M').cells = b.1) (hb2 : b'.2 + (Mm M').slots = b.2)
    (K : Sp g M' As h (fun r h' => Go g M (pc + 3) lo (psh r st) h' b' Post)) : Go g M pc lo (pus As st) h b Post := by
  rw [pus_eq]
  intro p e s m args below meth c C Q hQ H locs cells slots ls hW hS hl h1 h2 hz T hT X
  have hsz := sz_of X hT hW C.2.2.2.2.2.2.2.2.2 hz
  obtain ⟨hMI, hstat⟩ := hM
  obtain ⟨hpl, hco, hini, hd1, hd2, hd3⟩ := hMI
  refine after_run C hQ hS hl h1 h2 hz hsz hb1 hb2 (va_runS (As := As.map (tv g)) (n := n) ⟨C.2.1, C.2.2.1, C.2.2.2.1, C.2.2.2.2.1, C.2.2.2.2.2.1⟩ (met_of C.1 ⟨hpl, hco, hini, hd1, hd2, hd3⟩ hn K) ⟨callB_of n C.2.2.2.2.2.1 (tb_GoodIn (tb_cons hco)) rfl rfl rfl (C.2.2.2.2.2.1 _ hini) (C.2.2.2.2.2.1 _ hw) ⟨hd1, hd2, hd3⟩ hrm, C.2.2.2.2.2.1 _ hstat⟩ ⟨En.blind C.1 _, fun U hU hWm => ⟨rfl, by rw [hU]; exact hW, by rw [hU]; exact hsz, va_K.moved hWm.alike C.2.2.2.2.2.2.2.1, C.1.2 s U C.2.2.2.2.2.2.2.2.1 hWm (fun q hq => by rw [hU]; exact hS.2.1 q (Nat.lt_of_lt_of_le hq C.2.2.2.2.2.2.2.2.2) (Nat.not_le.mpr hq))⟩⟩ rfl (by rw [List.length_map]; exact hA) hl.1 (rev_map As st) (lv_room (by rw [cat_map]; exact hst)) hd ⟨by omega, by omega⟩) hT X
theorem ok_callV {As : List Value} {cx a : Nat} (hd : decode (Mc M) pc = .ok (.invokevirtual i, 3)) (hM : MV M' n) (hw : Cond.methodLink (My M).cls i (My M') ∈ tb) (hcx : cx < 6) (hcc : Rc cx = (My M').cls) (ha : Is h a cx 0) (hA : As.length = n) (hn : (spl (.ref a :: As)).length ≤ Ml M') (hrm : (Mm M').frames + 1 ≤ (Mm M).frames ∧ 8 + (Ml M' + 11) + (Mm M').locals ≤ (Mm M).locals) (hst : (st.map fun v => v.category).sum ≤ 8) (hb1 : b'.1 + (Mm M').cells = b.1) (hb2 : b'.2 + (Mm M').slots = b.2)
    (K : Sp g M' (.ref a :: As) h (fun r h' => Go g M (pc + 3) lo (psh r st) h' b' Post)) : Go g M pc lo (pus As (.ref a :: st)) h b Post := by
  rw [pus_eq]
  intro p e s m args below meth c C Q hQ H locs cells slots ls hW hS hl h1 h2 hz T hT X
  have hsz := sz_of X hT hW C.2.2.2.2.2.2.2.2.2 hz
  obtain ⟨hMI, hinst, hsel⟩ := hM
  obtain ⟨hpl, hco, hini, hd1, hd2, hd3⟩ := hMI
  have hat := wl_at (g := g) ha.1
  rw [ent_obj (c := cx) (by rw [ha.2.1]) hcx, ← C.1.1 a ha.2.2] at hat
  refine after_run C hQ hS hl h1 h2 hz hsz hb1 hb2 (va_runV (b := ga g a) (As := As.map (tv g)) (n := n) ⟨C.2.1, C.2.2.1, C.2.2.2.1, C.2.2.2.2.1, C.2.2.2.2.2.1⟩ (met_of C.1 ⟨hpl, hco, hini, hd1, hd2, hd3⟩ hn K) ⟨callB_of n C.2.2.2.2.2.1 (tb_GoodIn (tb_cons hco)) rfl rfl rfl (C.2.2.2.2.2.1 _ hini) (C.2.2.2.2.2.1 _ hw) ⟨hd1, hd2, hd3⟩ hrm, C.2.2.2.2.2.1 _ hinst, C.2.2.2.2.2.1 _ hsel⟩ ⟨En.blind C.1 _, hcc ▸ va_recv C.2.2.2.2.2.2.2.1 hW (cl_at hcx) hat, fun U hU hWm => ⟨rfl, by rw [hU]; exact hW, by rw [hU]; exact hsz, va_K.moved hWm.alike C.2.2.2.2.2.2.2.1, C.1.2 s U C.2.2.2.2.2.2.2.2.1 hWm (fun q hq => by rw [hU]; exact hS.2.1 q (Nat.lt_of_lt_of_le hq C.2.2.2.2.2.2.2.2.2) (Nat.not_le.mpr hq))⟩⟩ rfl (by rw [List.length_map]; exact hA) hl.1 (rev_map As (.ref a :: st)) (lv_room (by rw [cat_map]; exact hst)) hd ⟨by omega, by omega⟩) hT X
theorem ok_callI {As : List Value} {a : Nat} (hd : decode (Mc M) pc = .ok (.invokespecial i, 3)) (hM : MN M' n) (hw : Cond.methodLink (My M).cls i (My M') ∈ tb) (hA : As.length = n) (hn : (spl (.ref a :: As)).length ≤ Ml M') (hrm : (Mm M').frames + 1 ≤ (Mm M).frames ∧ 8 + (Ml M' + 11) + (Mm M').locals ≤ (Mm M).locals) (hst : (st.map fun v => v.category).sum ≤ 8) (hb1 : b'.1 + (Mm M').cells = b.1) (hb2 : b'.2 + (Mm M').slots = b.2)
    (K : Sp g M' (.ref a :: As) h (fun r h' => Go g M (pc + 3) lo (psh r st) h' b' Post)) : Go g M pc lo (pus As (.ref a :: st)) h b Post := by
  rw [pus_eq]
  intro p e s m args below meth c C Q hQ H locs cells slots ls hW hS hl h1 h2 hz T hT X
  have hsz := sz_of X hT hW C.2.2.2.2.2.2.2.2.2 hz
  obtain ⟨hMI, hnm, hinst, hret⟩ := hM
  obtain ⟨hpl, hco, hini, hd1, hd2, hd3⟩ := hMI
  have K2 := met_of C.1 ⟨hpl, hco, hini, hd1, hd2, hd3⟩ hn K
  rw [hret] at K2 hco
  refine after_run C hQ hS hl h1 h2 hz hsz hb1 hb2 (va_runI (b := ga g a) (As := As.map (tv g)) (n := n) ⟨C.2.1, C.2.2.1, C.2.2.2.1, C.2.2.2.2.1, C.2.2.2.2.2.1⟩ K2 ⟨callB_of n C.2.2.2.2.2.1 (tb_GoodIn (tb_cons hco)) rfl rfl rfl (C.2.2.2.2.2.1 _ hini) (C.2.2.2.2.2.1 _ hw) ⟨hd1, hd2, hd3⟩ hrm, hnm, C.2.2.2.2.2.1 _ hinst⟩ ⟨En.blind C.1 _, fun U hU hWm => ⟨rfl, by rw [hU]; exact hW, by rw [hU]; exact hsz, va_K.moved hWm.alike C.2.2.2.2.2.2.2.1, C.1.2 s U C.2.2.2.2.2.2.2.2.1 hWm (fun q hq => by rw [hU]; exact hS.2.1 q (Nat.lt_of_lt_of_le hq C.2.2.2.2.2.2.2.2.2) (Nat.not_le.mpr hq))⟩⟩ rfl (by rw [List.length_map]; exact hA) hl.1 (rev_map As (.ref a :: st)) (lv_room (by rw [cat_map]; exact hst)) hd ⟨by omega, by omega⟩) hT X
end CallRows
