/-! ===== the frame of the work: a typed heap by object numbers, and Go: a weakest precondition over the machine ===== -/
/-- ints (booleans, bytes), longs, references, (kind, length) by object; how many objects -/
abbrev Hp : Type := (Nat → Nat → Int32) × (Nat → Nat → Int64) × (Nat → Nat → Option Nat) × (Nat → Nat × Nat) × Nat
/-- launch; classes and slots; array classes; addresses; the first address of ours; what else holds of a state -/
abbrev GG : Type := Launch × va_G × (Nat → ClassId) × (Nat → Nat) × Nat × (State → Prop)
/-- name, bytes, locals, return type, room -/
abbrev MM : Type := MethodName × ByteArray × Nat × Option FieldType × Room
abbrev gl (g : GG) : Launch := g.1
abbrev gD (g : GG) : va_G := g.2.1
abbrev gc (g : GG) : Nat → ClassId := g.2.2.1
abbrev ga (g : GG) : Nat → Nat := g.2.2.2.1
abbrev gb (g : GG) : Nat := g.2.2.2.2.1
abbrev gx (g : GG) : State → Prop := g.2.2.2.2.2
abbrev My (M : MM) : MethodName := M.1
abbrev Mc (M : MM) : ByteArray := M.2.1
abbrev Ml (M : MM) : Nat := M.2.2.1
abbrev Mr (M : MM) : Option FieldType := M.2.2.2.1
abbrev Mm (M : MM) : Room := M.2.2.2.2
abbrev hN (h : Hp) : Nat := h.2.2.2.2
abbrev hK (h : Hp) : Nat → Nat × Nat := h.2.2.2.1
abbrev hR (h : Hp) : Nat → Nat → Option Nat := h.2.2.1
abbrev hL (h : Hp) : Nat → Nat → Int64 := h.2.1
abbrev hI (h : Hp) : Nat → Nat → Int32 := h.1
def tv (g : GG) : Value → Value
  | .ref a => .ref (ga g a)
  | v => v
theorem tv_cat (g : GG) (v : Value) : (tv g v).category = v.category := by cases v <;> rfl
def tb : List Cond := lw_tbl.filter goodWord
theorem tb_in {w : Cond} (h : w ∈ lw_tbl) (hg : goodWord w = true) : w ∈ tb := List.mem_filter.mpr ⟨h, hg⟩
theorem tb_good {w : Cond} (h : w ∈ tb) : (w.onTables && w.keeps) = true ∨ ∃ ty, w = .arrayClass ty := good_of_word (List.mem_filter.mp h).2
def Rc : Nat → String
  | 0 => RX0 | 1 => RX1 | 2 => RX2 | 3 => RX3 | 4 => RX4 | _ => RX5
def Tc : Nat → u_T
  | 0 => TX0 | 1 => TX1 | 2 => TX2 | 3 => TX3 | 4 => TX4 | _ => TX5
def Nc : Nat → Nat
  | 0 => 7 | 1 => 3 | 2 => 8 | 3 => 6 | 4 => 7 | _ => 21
def yc : Nat → Nat → FieldType
  | 0 => tyX0 | 1 => tyX1 | 2 => tyX2 | 3 => tyX3 | 4 => tyX4 | _ => tyX5
theorem cl_at : ∀ {c : Nat}, c < 6 → vwCl[c]? = some (Rc c, Tc c, Nc c)
  | 0, _ => rfl | 1, _ => rfl | 2, _ => rfl | 3, _ => rfl | 4, _ => rfl | 5, _ => rfl
  | c + 6, h => absurd h (by omega)
theorem nm_c : ∀ {c : Nat}, c < 6 → ∀ a, a < Nc c → ∀ b, b < Nc c → a ≠ b → (Tc c a).2.1 ≠ (Tc c b).2.1
  | 0, _ => nmX0 | 1, _ => nmX1 | 2, _ => nmX2 | 3, _ => nmX3 | 4, _ => nmX4 | 5, _ => nmX5
  | c + 6, h => absurd h (by omega)
theorem ty_c : ∀ {c : Nat}, c < 6 → ∀ k, k < Nc c → parseFieldDescriptor (Tc c k).2.2.1 = some (yc c k)
  | 0, _ => tyX0_ok | 1, _ => tyX1_ok | 2, _ => tyX2_ok | 3, _ => tyX3_ok | 4, _ => tyX4_ok | 5, _ => tyX5_ok
  | c + 6, h => absurd h (by omega)
/-- the fields' sorts: 0 an int, 1 a long, 2 a reference -/
def fts : Nat → List Nat
  | 0 => [0, 0, 0, 0, 0, 0, 0]
  | 1 => [0, 0, 2]
  | 2 => [0, 0, 0, 0, 0, 0, 0, 2]
  | 3 => [2, 0, 0, 0, 0, 0]
  | 4 => [2, 2, 2, 2, 0, 2, 2]
  | _ => [2, 2, 2, 2, 0, 2, 2, 0, 0, 0, 0, 1, 0, 0, 2, 2, 2, 2, 2, 2, 0]
theorem fts_len : ∀ {c : Nat}, c < 6 → (fts c).length = Nc c
  | 0, _ => rfl | 1, _ => rfl | 2, _ => rfl | 3, _ => rfl | 4, _ => rfl | 5, _ => rfl
  | c + 6, h => absurd h (by omega)
def fvv (g : GG) (h : Hp) (a k : Nat) : Nat → Value
  | 0 => .int (h.1 a k)
  | 1 => .long (h.2.1 a k)
  | _ => va_rf ((h.2.2.1 a k).map (ga g))
def fvs (g : GG) (h : Hp) (a c : Nat) : List Value := (List.range (fts c).length).map (fun k => fvv g h a k ((fts c).getD k 0))
def ent (g : GG) (h : Hp) (a : Nat) : va_E := match (h.2.2.2.1 a).1 with
  | 6 => .inl (gc g 0, (h.2.2.2.1 a).2, .inl (h.1 a))
  | 7 => .inl (gc g 1, (h.2.2.2.1 a).2, .inl (h.1 a))
  | 8 => .inl (gc g 2, (h.2.2.2.1 a).2, .inr (.inl (h.2.1 a)))
  | 9 => .inl (gc g 3, (h.2.2.2.1 a).2, .inr (.inr (.inr (.inr (fun j => (h.2.2.1 a j).map (ga g))))))
  | 10 => .inl (gc g 4, (h.2.2.2.1 a).2, .inr (.inr (.inr (.inr (fun j => (h.2.2.1 a j).map (ga g))))))
  | c => .inr (c, fvs g h a c)
theorem ent_congr {g : GG} {h h' : Hp} {b : Nat} (e1 : h'.1 b = h.1 b) (e2 : h'.2.1 b = h.2.1 b) (e3 : h'.2.2.1 b = h.2.2.1 b) (e4 : h'.2.2.2.1 b = h.2.2.2.1 b) : ent g h' b = ent g h b := by
  have e5 : ∀ c, fvs g h' b c = fvs g h b c := by
    intro c
    unfold fvs
    apply List.map_congr_left
    intro k _
    generalize (fts c).getD k 0 = t
    match t with
    | 0 => simp only [fvv, e1]
    | 1 => simp only [fvv, e2]
    | t + 2 => simp only [fvv, e3]
  unfold ent
  simp only [e1, e2, e3, e4, e5]
theorem ent_obj {g : GG} {h : Hp} {a c : Nat} (hk : (hK h a).1 = c) (hc : c < 6) : ent g h a = .inr (c, fvs g h a c) := by
  unfold ent
  rw [hk]
  match c, hc with
  | 0, _ => rfl | 1, _ => rfl | 2, _ => rfl | 3, _ => rfl | 4, _ => rfl | 5, _ => rfl
theorem ent_6 {g : GG} {h : Hp} {a n : Nat} (hk : hK h a = (6, n)) : ent g h a = .inl (gc g 0, n, .inl (h.1 a)) := by have hk9 : h.2.2.2.1 a = (6, n) := hk; simp only [ent, hk9]
theorem ent_7 {g : GG} {h : Hp} {a n : Nat} (hk : hK h a = (7, n)) : ent g h a = .inl (gc g 1, n, .inl (h.1 a)) := by have hk9 : h.2.2.2.1 a = (7, n) := hk; simp only [ent, hk9]
theorem ent_8 {g : GG} {h : Hp} {a n : Nat} (hk : hK h a = (8, n)) : ent g h a = .inl (gc g 2, n, .inr (.inl (h.2.1 a))) := by have hk9 : h.2.2.2.1 a = (8, n) := hk; simp only [ent, hk9]
theorem ent_9 {g : GG} {h : Hp} {a n : Nat} (hk : hK h a = (9, n)) : ent g h a = .inl (gc g 3, n, .inr (.inr (.inr (.inr (fun j => (h.2.2.1 a j).map (ga g)))))) := by have hk9 : h.2.2.2.1 a = (9, n) := hk; simp only [ent, hk9]
theorem ent_10 {g : GG} {h : Hp} {a n : Nat} (hk : hK h a = (10, n)) : ent g h a = .inl (gc g 4, n, .inr (.inr (.inr (.inr (fun j => (h.2.2.1 a j).map (ga g)))))) := by have hk9 : h.2.2.2.1 a = (10, n) := hk; simp only [ent, hk9]
theorem fvs_at {g : GG} {h : Hp} {a c k : Nat} (hk : k < (fts c).length) : (fvs g h a c)[k]? = some (fvv g h a k ((fts c).getD k 0)) := by
  unfold fvs
  rw [List.getElem?_map, List.getElem?_range hk]
  rfl
theorem fvs_len {g : GG} {h : Hp} {a c : Nat} : (fvs g h a c).length = (fts c).length := by simp [fvs]
/-- the world as a list of cells -/
def wl (g : GG) (h : Hp) : va_W := (List.range (hN h)).map (fun i => (gb g + i, ent g h i))
theorem wl_at {g : GG} {h : Hp} {i : Nat} (hi : i < hN h) : (wl g h)[i]? = some (gb g + i, ent g h i) := by
  unfold wl
  rw [List.getElem?_map, List.getElem?_range hi]
  rfl
theorem wl_of {g : GG} {h : Hp} {k : Nat} {q : Nat × va_E} (hq : (wl g h)[k]? = some q) : k < hN h ∧ q = (gb g + k, ent g h k) := by
  have hl : k < (wl g h).length := (List.getElem?_eq_some_iff.mp hq).1
  have hk : k < hN h := by simpa [wl] using hl
  exact ⟨hk, Option.some.inj (hq.symm.trans (wl_at hk))⟩
theorem wl_D (g : GG) (h : Hp) : va_D (fun q => gb g ≤ q) (wl g h) := by
  refine ⟨fun i j p q hp hq e => ?_, fun k q hq => ?_⟩
  · obtain ⟨-, rfl⟩ := wl_of hp
    obtain ⟨-, rfl⟩ := wl_of hq
    exact Nat.add_left_cancel e
  · obtain ⟨-, rfl⟩ := wl_of hq
    exact Nat.le_add_right _ _
theorem wl_set {g : GG} {h h' : Hp} {i : Nat} {e : va_E} (hi : i < hN h) (hn : hN h' = hN h) (ho : ∀ j, j ≠ i → ent g h' j = ent g h j) (he : ent g h' i = e) : (wl g h).set i (gb g + i, e) = wl g h' := by
  apply List.ext_getElem?
  intro k
  have hl : i < (wl g h).length := by simpa [wl] using hi
  by_cases hk : k < hN h
  · rw [wl_at (h := h') (by rw [hn]; exact hk)]
    by_cases hki : k = i
    · subst hki
      rw [List.getElem?_set_self hl, he]
    · rw [List.getElem?_set_ne (Ne.symm hki), wl_at hk, ho k hki]
  · rw [List.getElem?_eq_none (by simpa [wl] using Nat.le_of_not_lt hk), List.getElem?_eq_none (by simpa [wl, hn] using Nat.le_of_not_lt hk)]
/-! writes -/
def uI (h : Hp) (a k : Nat) (v : Int32) : Hp := (fun b j => if b = a ∧ j = k then v else h.1 b j, h.2)
def uL (h : Hp) (a k : Nat) (v : Int64) : Hp := (h.1, fun b j => if b = a ∧ j = k then v else h.2.1 b j, h.2.2)
def uR (h : Hp) (a k : Nat) (v : Option Nat) : Hp := (h.1, h.2.1, fun b j => if b = a ∧ j = k then v else h.2.2.1 b j, h.2.2.2)
/-- a new object of a kind, all at its default -/
def born (h : Hp) (t n : Nat) : Hp := (fun b j => if b = hN h then 0 else h.1 b j, fun b j => if b = hN h then 0 else h.2.1 b j, fun b j => if b = hN h then none else h.2.2.1 b j, fun b => if b = hN h then (t, n) else h.2.2.2.1 b, hN h + 1)
theorem ent_uI {g : GG} {h : Hp} {a k b : Nat} {v : Int32} (hb : b ≠ a) : ent g (uI h a k v) b = ent g h b :=
  ent_congr (funext fun _ => if_neg (fun q => hb q.1)) rfl rfl rfl
theorem ent_uL {g : GG} {h : Hp} {a k b : Nat} {v : Int64} (hb : b ≠ a) : ent g (uL h a k v) b = ent g h b :=
  ent_congr rfl (funext fun _ => if_neg (fun q => hb q.1)) rfl rfl
theorem ent_uR {g : GG} {h : Hp} {a k b : Nat} {v : Option Nat} (hb : b ≠ a) : ent g (uR h a k v) b = ent g h b :=
  ent_congr rfl rfl (funext fun _ => if_neg (fun q => hb q.1)) rfl
theorem ent_born {g : GG} {h : Hp} {t n b : Nat} (hb : b ≠ hN h) : ent g (born h t n) b = ent g h b :=
  ent_congr (funext fun _ => if_neg hb) (funext fun _ => if_neg hb) (funext fun _ => if_neg hb) (if_neg hb)
theorem wl_born {g : GG} {h : Hp} {t n : Nat} {e : va_E} (he : ent g (born h t n) (hN h) = e) : wl g h ++ [(gb g + hN h, e)] = wl g (born h t n) := by
  apply List.ext_getElem?
  intro k
  have hlen : (wl g h).length = hN h := by simp [wl]
  rcases Nat.lt_trichotomy k (hN h) with hk | hk | hk
  · rw [List.getElem?_append_left (by rw [hlen]; exact hk), wl_at hk, wl_at (h := born h t n) (Nat.lt_succ_of_lt hk), ent_born (Nat.ne_of_lt hk)]
  · subst hk
    rw [List.getElem?_append_right (by rw [hlen]; exact Nat.le_refl _), hlen, Nat.sub_self, wl_at (h := born h t n) (Nat.lt_succ_self _), he]
    rfl
  · rw [List.getElem?_eq_none (by rw [List.length_append, hlen]; exact hk), List.getElem?_eq_none (by rw [show (wl g (born h t n)).length = hN h + 1 by simp [wl, born]]; exact hk)]
/-! locals -/
def asc (g : GG) (lo : List (Option Value)) : List (Nat × Value) := (List.range lo.length).filterMap (fun i => (lo.getD i none).map (fun v => (i, tv g v)))
theorem mem_asc {g : GG} {lo : List (Option Value)} {q : Nat × Value} : q ∈ asc g lo ↔ ∃ v, lo[q.1]? = some (some v) ∧ q.2 = tv g v := by
  unfold asc
  rw [List.mem_filterMap]
  constructor
  · rintro ⟨i, hi, he⟩
    rw [List.mem_range] at hi
    rw [List.getD_eq_getElem?_getD, List.getElem?_eq_getElem hi] at he
    cases hv : lo[i] with
    | none => rw [Option.getD_some, hv] at he; cases he
    | some v =>
      rw [Option.getD_some, hv] at he
      cases he
      exact ⟨v, by rw [List.getElem?_eq_getElem hi, hv], rfl⟩
  · rintro ⟨v, h1, h2⟩
    have hi := (List.getElem?_eq_some_iff.mp h1).1
    refine ⟨q.1, List.mem_range.mpr hi, ?_⟩
    rw [List.getD_eq_getElem?_getD, h1]
    show some (q.1, tv g v) = some q
    rw [← h2]
theorem lv_mono {ls : Array Slot} {n : Nat} {l l' : List (Nat × Value)} (h : lv_has ls n l) (hs : ∀ q ∈ l', q ∈ l) : lv_has ls n l' := ⟨h.1, h.2.1, fun q hq => h.2.2 q (hs q hq)⟩
theorem asc_at {g : GG} {ls : Array Slot} {n i : Nat} {lo : List (Option Value)} {v : Value} (h : lv_has ls n (asc g lo)) (hv : lo[i]? = some (some v)) : ls[i]? = some (.val (tv g v)) := h.2.2 (i, tv g v) (mem_asc.mpr ⟨v, hv, rfl⟩)
/-- no long ends at place i -/
def okst (lo : List (Option Value)) : Nat → Bool
  | 0 => true
  | j + 1 => match lo.getD j none with
    | some (.long _) => false
    | some (.double _) => false
    | _ => true
theorem okst_cat {lo : List (Option Value)} {i : Nat} (h : okst lo i = true) {j : Nat} {w : Value} (hj : j + 1 = i) (hw : lo[j]? = some (some w)) : w.category = 1 := by
  subst hj
  have e : lo.getD j none = some w := by rw [List.getD_eq_getElem?_getD, hw]; rfl
  simp only [okst, e] at h
  cases w <;> first | rfl | cases h
theorem asc_set1 {g : GG} {lo : List (Option Value)} {i : Nat} {v : Value} (hok : okst lo i = true) : ∀ q ∈ asc g (lo.set i (some v)), q ∈ (i, tv g v) :: (asc g lo).filter (fun q => !(q.1 == i) && !(q.1 + 1 == i && q.2.category == 2)) := by
  intro q hq
  obtain ⟨w, h1, h2⟩ := mem_asc.mp hq
  by_cases hqi : q.1 = i
  · have hl : i < lo.length := by have := (List.getElem?_eq_some_iff.mp h1).1; rw [List.length_set] at this; omega
    rw [hqi, List.getElem?_set_self hl] at h1
    cases h1
    rw [show q = (i, tv g v) from Prod.ext hqi h2]
    exact List.mem_cons_self
  · rw [List.getElem?_set_ne (Ne.symm hqi)] at h1
    refine List.mem_cons_of_mem _ (List.mem_filter.mpr ⟨mem_asc.mpr ⟨w, h1, h2⟩, ?_⟩)
    have hb : (q.1 == i) = false := by simpa using hqi
    by_cases hq1 : q.1 + 1 = i
    · have hc := okst_cat hok hq1 h1
      simp [hb, h2, tv_cat, hc]
    · have hb2 : (q.1 + 1 == i) = false := by simpa using hq1
      simp [hb, hb2]
theorem asc_set2 {g : GG} {lo : List (Option Value)} {i : Nat} {v : Value} (hok : okst lo i = true) : ∀ q ∈ asc g ((lo.set i (some v)).set (i + 1) none), q ∈ (i, tv g v) :: (asc g lo).filter (fun q => !(q.1 == i) && (!(q.1 == i + 1) && !(q.1 + 1 == i && q.2.category == 2))) := by
  intro q hq
  obtain ⟨w, h1, h2⟩ := mem_asc.mp hq
  by_cases hq2 : q.1 = i + 1
  · have hl := (List.getElem?_eq_some_iff.mp h1).1
    rw [List.length_set] at hl
    rw [hq2, List.getElem?_set_self (by rw [hq2] at hl; exact hl)] at h1
    cases h1
  rw [List.getElem?_set_ne (Ne.symm hq2)] at h1
  by_cases hqi : q.1 = i
  · have hl : i < lo.length := by have := (List.getElem?_eq_some_iff.mp h1).1; rw [List.length_set] at this; omega
    rw [hqi, List.getElem?_set_self hl] at h1
    cases h1
    rw [show q = (i, tv g v) from Prod.ext hqi h2]
    exact List.mem_cons_self
  · rw [List.getElem?_set_ne (Ne.symm hqi)] at h1
    refine List.mem_cons_of_mem _ (List.mem_filter.mpr ⟨mem_asc.mpr ⟨w, h1, h2⟩, ?_⟩)
    have hb : (q.1 == i) = false := by simpa using hqi
    have hb3 : (q.1 == i + 1) = false := by simpa using hq2
    by_cases hq1 : q.1 + 1 = i
    · have hc := okst_cat hok hq1 h1
      simp [hb, hb3, h2, tv_cat, hc]
    · have hb2 : (q.1 + 1 == i) = false := by simpa using hq1
      simp [hb, hb2, hb3]
/-! the judgement -/
def gty (g : GG) : List (ClassId × FieldType) := [(gc g 0, .byte), (gc g 1, .int), (gc g 2, .long), (gc g 3, .object RX0), (gc g 4, .object RX1)]
def GOk (g : GG) : Prop := (∀ k, k < 1000 → ga g k = gb g + k) ∧ ∀ s U : State, gx g s → s.WarmedH U.vm → (∀ q : Nat, q < gb g → U.heap[q]? = s.heap[q]?) → gx g U
def Cx (g : GG) (M : MM) (p : Program) (s : State) (m : MethodId) (args : Array Value) (meth : Method) (c : Code) : Prop :=
  GOk g ∧ p.tables.exec = Jvm.exec ∧ c.code = Mc M ∧ c.maxLocals = Ml M ∧ s.vm.findClass (My M).cls = some m.cls ∧ (∀ w ∈ tb, w.before args s = true) ∧ meth.name = (My M).name ∧ va_K (gD g) vwCl (gty g) s ∧ gx g s ∧ gb g ≤ s.heap.size
def psh (r : Option Value) (st : List Value) : List Value := match r with
  | none => st
  | some v => v :: st
def RetI (M : MM) (pc : Nat) : Option Value → Prop
  | none => Mr M = none ∧ decode (Mc M) pc = .ok (.return_, 1)
  | some (.int x) => (∃ ty, Mr M = some ty ∧ narrow ty (.int x) = .int x) ∧ decode (Mc M) pc = .ok (.ireturn, 1)
  | some (.long _) => Mr M = some .long ∧ decode (Mc M) pc = .ok (.lreturn, 1)
  | some (.ref _) => (∃ n, Mr M = some (.object n)) ∧ decode (Mc M) pc = .ok (.areturn, 1)
  | _ => False
def Wd (g : GG) (h : Hp) (H : Heap) : Prop := va_P (gD g) vwCl (wl g h) H
def Rt (g : GG) (M : MM) (Post : Option Value → Hp → Prop) (p : Program) (e : Env) (s : State) (m : MethodId) (args : Array Value) (below : List Frame) (meth : Method) (c : Code) (Q : State → Prop) : Prop :=
  ∀ (r : Option Value) (h : Hp) (H : Heap) (locs : List Loc) (cells slots pc : Nat) (ls : Array Slot), Post r h → Wd g h H → va_S (fun q => gb g ≤ q) s.heap H locs → cells = (Mm M).cells → slots ≤ (Mm M).slots → s.heap.size + cells ≤ gb g + hN h → RetI M pc r → W p (gl g) e (Mm M) s m args below meth c H locs cells slots Q (F0 m pc ls ((psh r []).map (tv g)))
def Go (g : GG) (M : MM) (pc : Nat) (lo : List (Option Value)) (st : List Value) (h : Hp) (b : Nat × Nat) (Post : Option Value → Hp → Prop) : Prop :=
  ∀ (p : Program) (e : Env) (s : State) (m : MethodId) (args : Array Value) (below : List Frame) (meth : Method) (c : Code), Cx g M p s m args meth c → ∀ Q : State → Prop, Rt g M Post p e s m args below meth c Q →
  ∀ (H : Heap) (locs : List Loc) (cells slots : Nat) (ls : Array Slot), Wd g h H → va_S (fun q => gb g ≤ q) s.heap H locs → lv_has ls (Ml M) (asc g lo) → cells + b.1 = (Mm M).cells → slots + b.2 ≤ (Mm M).slots → s.heap.size + cells ≤ gb g + hN h → W p (gl g) e (Mm M) s m args below meth c H locs cells slots Q (F0 m pc ls (st.map (tv g)))
def spl : List Value → List (Option Value)
  | [] => []
  | v :: l => match v with
    | .long x => some (.long x) :: none :: spl l
    | .double x => some (.double x) :: none :: spl l
    | v => some v :: spl l
def lo0 (n : Nat) (As : List Value) : List (Option Value) := spl As ++ List.replicate (n - (spl As).length) none
/-- what a call of a method owes: from the arguments and the heap, every end has Post -/
def Sp (g : GG) (M : MM) (As : List Value) (h : Hp) (Post : Option Value → Hp → Prop) : Prop := Go g M 0 (lo0 (Ml M) As) [] h ((Mm M).cells, (Mm M).slots) Post
/-- the heap's size, out of what stands: so many objects of ours, none else new -/
theorem sz_of {g : GG} {p : Program} {e : Env} {R : Room} {s : State} {m : MethodId} {args : Array Value} {below : List Frame} {meth : Method} {c : Code} {T : State} {locs : List Loc} {cells slots : Nat} {H : Heap} {h : Hp} (X : Stand p (gl g) e R s m args below meth c T locs cells slots) (hT : T.heap = H) (hW : Wd g h H) (hb : gb g ≤ s.heap.size) (hz : s.heap.size + cells ≤ gb g + hN h) : H.size = gb g + hN h := by
  have h1 : T.heap.size ≤ s.heap.size + cells := X.same.2.2.1
  have h2 : s.heap.size ≤ T.heap.size := X.same.2.1
  rw [hT] at h1 h2
  by_cases h0 : hN h = 0
  · omega
  · have h3 := (hW (hN h - 1) _ (wl_at (by omega))).lt
    have h4 : gb g + (hN h - 1) < H.size := h3
    omega
