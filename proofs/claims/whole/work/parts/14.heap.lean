/-! ===== rows of the heap ===== -/
/-- object a is of kind t, of length n -/
def Is (h : Hp) (a t n : Nat) : Prop := a < hN h ∧ hK h a = (t, n) ∧ a < 1000
section HeapRows
variable {g : GG} {M : MM} {pc : Nat} {lo lo' : List (Option Value)} {st : List Value} {h : Hp} {b : Nat × Nat} {Post : Option Value → Hp → Prop}
theorem ok_getI {i c k a : Nat} (hd : decode (Mc M) pc = .ok (.getfield i, 3)) (hf : FW (My M).cls i c k) (ha : Is h a c 0) (ht : (fts c).getD k 0 = 0) (kk : Go g M (pc + 3) lo (.int (hI h a k) :: st) h b Post) : Go g M pc lo (.ref a :: st) h b Post := by
  intro p e s m args below meth cd C Q hQ H locs cells slots ls hW hS hl h1 h2 hz
  obtain ⟨hc, hk, hw⟩ := hf
  have he : ga g a = gb g + a := C.1.1 a ha.2.2
  show W p (gl g) e (Mm M) s m args below meth cd H locs cells slots Q (F0 m pc ls (.ref (ga g a) :: st.map (tv g)))
  rw [he]
  have hat := wl_at (g := g) ha.1
  rw [ent_obj (by rw [ha.2.1]) hc] at hat
  refine va_get (D := gD g) (ci := c) C.2.1 C.2.2.1 C.2.2.2.2.2.1 (in_c hc) C.2.2.2.2.1 C.2.2.2.2.2.2.2.1 hW a hat (cl_at hc) k hk (C.2.2.2.2.2.1 _ hw) (fun _ q => q) (fvs_at (by rw [fts_len hc]; exact hk)) hd ?_
  rw [ht]
  exact kk p e s m args below meth cd C Q hQ H locs cells slots ls hW hS hl h1 h2 hz
theorem ok_getL {i c k a : Nat} (hd : decode (Mc M) pc = .ok (.getfield i, 3)) (hf : FW (My M).cls i c k) (ha : Is h a c 0) (ht : (fts c).getD k 0 = 1) (kk : Go g M (pc + 3) lo (.long (hL h a k) :: st) h b Post) : Go g M pc lo (.ref a :: st) h b Post := by
  intro p e s m args below meth cd C Q hQ H locs cells slots ls hW hS hl h1 h2 hz
  obtain ⟨hc, hk, hw⟩ := hf
  have he : ga g a = gb g + a := C.1.1 a ha.2.2
  show W p (gl g) e (Mm M) s m args below meth cd H locs cells slots Q (F0 m pc ls (.ref (ga g a) :: st.map (tv g)))
  rw [he]
  have hat := wl_at (g := g) ha.1
  rw [ent_obj (by rw [ha.2.1]) hc] at hat
  refine va_get (D := gD g) (ci := c) C.2.1 C.2.2.1 C.2.2.2.2.2.1 (in_c hc) C.2.2.2.2.1 C.2.2.2.2.2.2.2.1 hW a hat (cl_at hc) k hk (C.2.2.2.2.2.1 _ hw) (fun _ q => q) (fvs_at (by rw [fts_len hc]; exact hk)) hd ?_
  rw [ht]
  exact kk p e s m args below meth cd C Q hQ H locs cells slots ls hW hS hl h1 h2 hz
theorem ok_getR {i c k a r : Nat} (hd : decode (Mc M) pc = .ok (.getfield i, 3)) (hf : FW (My M).cls i c k) (ha : Is h a c 0) (ht : (fts c).getD k 0 = 2) (hr : hR h a k = some r) (kk : Go g M (pc + 3) lo (.ref r :: st) h b Post) : Go g M pc lo (.ref a :: st) h b Post := by
  intro p e s m args below meth cd C Q hQ H locs cells slots ls hW hS hl h1 h2 hz
  obtain ⟨hc, hk, hw⟩ := hf
  have he : ga g a = gb g + a := C.1.1 a ha.2.2
  show W p (gl g) e (Mm M) s m args below meth cd H locs cells slots Q (F0 m pc ls (.ref (ga g a) :: st.map (tv g)))
  rw [he]
  have hat := wl_at (g := g) ha.1
  rw [ent_obj (by rw [ha.2.1]) hc] at hat
  refine va_get (D := gD g) (ci := c) C.2.1 C.2.2.1 C.2.2.2.2.2.1 (in_c hc) C.2.2.2.2.1 C.2.2.2.2.2.2.2.1 hW a hat (cl_at hc) k hk (C.2.2.2.2.2.1 _ hw) (fun _ q => q) (v := .ref (ga g r)) (by rw [fvs_at (by rw [fts_len hc]; exact hk), ht]; show some (va_rf ((hR h a k).map (ga g))) = _; rw [hr]; rfl) hd ?_
  exact kk p e s m args below meth cd C Q hQ H locs cells slots ls hW hS hl h1 h2 hz
theorem fvs_set {g : GG} {h h' : Hp} {a c k : Nat} {v : Value} (hk : k < (fts c).length) (hv : fvv g h' a k ((fts c).getD k 0) = v) (ho : ∀ j, j < (fts c).length → j ≠ k → fvv g h' a j ((fts c).getD j 0) = fvv g h a j ((fts c).getD j 0)) : (fvs g h a c).set k v = fvs g h' a c := by
  apply List.ext_getElem?
  intro j
  by_cases hj : j < (fts c).length
  · by_cases hjk : j = k
    · subst hjk
      rw [List.getElem?_set_self (by rw [fvs_len]; exact hj), fvs_at hj, hv]
    · rw [List.getElem?_set_ne (Ne.symm hjk), fvs_at hj, fvs_at hj, ho j hj hjk]
  · rw [List.getElem?_eq_none (by rw [List.length_set, fvs_len]; omega), List.getElem?_eq_none (by rw [fvs_len]; omega)]
theorem fvv_uI {g : GG} {h : Hp} {a k j t : Nat} {v : Int32} (hj : j ≠ k) : fvv g (uI h a k v) a j t = fvv g h a j t := by
  match t with
  | 0 => show Value.int (if a = a ∧ j = k then v else _) = _; rw [if_neg (fun q => hj q.2)]; rfl
  | 1 => rfl
  | t + 2 => rfl
theorem fvv_uL {g : GG} {h : Hp} {a k j t : Nat} {v : Int64} (hj : j ≠ k) : fvv g (uL h a k v) a j t = fvv g h a j t := by
  match t with
  | 0 => rfl
  | 1 => show Value.long (if a = a ∧ j = k then v else _) = _; rw [if_neg (fun q => hj q.2)]; rfl
  | t + 2 => rfl
theorem fvv_uR {g : GG} {h : Hp} {a k j t : Nat} {v : Option Nat} (hj : j ≠ k) : fvv g (uR h a k v) a j t = fvv g h a j t := by
  match t with
  | 0 => rfl
  | 1 => rfl
  | t + 2 => show va_rf ((if a = a ∧ j = k then v else _).map _) = _; rw [if_neg (fun q => hj q.2)]; rfl
theorem Wd.upd {h' : Hp} {a : Nat} {en : va_E} {H1 : Heap} (ha : a < hN h) (hn : hN h' = hN h) (ho : ∀ j, j ≠ a → ent g h' j = ent g h j) (he : ent g h' a = en) (hP : va_P (gD g) vwCl ((wl g h).set a (gb g + a, en)) H1) : Wd g h' H1 := by
  rw [wl_set (h' := h') ha hn ho he] at hP
  exact hP
theorem ok_putI {i c k a : Nat} {x : Int32} (hd : decode (Mc M) pc = .ok (.putfield i, 3)) (hf : FW (My M).cls i c k) (ha : Is h a c 0) (ht : (fts c).getD k 0 = 0) (hfin : (Tc c k).2.2.2 = false) (hn : narrow (yc c k) (.int x) = .int x) (hfit : fits (yc c k) (.int x) = true) (kk : Go g M (pc + 3) lo st (uI h a k x) b Post) : Go g M pc lo (.int x :: .ref a :: st) h b Post := by
  intro p e s m args below meth cd C Q hQ H locs cells slots ls hW hS hl h1 h2 hz
  obtain ⟨hc, hk, hw⟩ := hf
  have he : ga g a = gb g + a := C.1.1 a ha.2.2
  show W p (gl g) e (Mm M) s m args below meth cd H locs cells slots Q (F0 m pc ls (.int x :: .ref (ga g a) :: st.map (tv g)))
  rw [he]
  have hat := wl_at (g := g) ha.1
  rw [ent_obj (by rw [ha.2.1]) hc] at hat
  have hkl : k < (fts c).length := by rw [fts_len hc]; exact hk
  refine va_put (D := gD g) (ci := c) C.2.1 C.2.2.1 C.2.2.2.2.2.1 (in_c hc) (yc c) (ty_c hc) (nm_c hc) C.2.2.2.2.1 C.2.2.2.2.2.2.2.1 hW (wl_D g h) hS a hat (cl_at hc) k hk (C.2.2.2.2.2.1 _ hw) (fun _ q => q) hfin (ty_c hc k hk) hn hfit (by rw [fvs_len]; exact hkl) hd (fun H1 locs1 hP _ hS1 => ?_)
  have hW1 : Wd g (uI h a k x) H1 := Wd.upd ha.1 rfl (fun j hj => ent_uI hj) (by
    rw [ent_obj (h := uI h a k x) (c := c) (show (hK h a).1 = c by rw [ha.2.1]) hc, fvs_set (h' := uI h a k x) hkl (by rw [ht]; show Value.int (if a = a ∧ k = k then x else _) = _; rw [if_pos ⟨rfl, rfl⟩]) (fun j _ hj => fvv_uI hj)]) hP
  exact kk p e s m args below meth cd C Q hQ H1 locs1 cells slots ls hW1 hS1 hl h1 h2 hz
theorem ok_putL {i c k a : Nat} {x : Int64} (hd : decode (Mc M) pc = .ok (.putfield i, 3)) (hf : FW (My M).cls i c k) (ha : Is h a c 0) (ht : (fts c).getD k 0 = 1) (hfin : (Tc c k).2.2.2 = false) (hn : narrow (yc c k) (.long x) = .long x) (hfit : fits (yc c k) (.long x) = true) (kk : Go g M (pc + 3) lo st (uL h a k x) b Post) : Go g M pc lo (.long x :: .ref a :: st) h b Post := by
  intro p e s m args below meth cd C Q hQ H locs cells slots ls hW hS hl h1 h2 hz
  obtain ⟨hc, hk, hw⟩ := hf
  have he : ga g a = gb g + a := C.1.1 a ha.2.2
  show W p (gl g) e (Mm M) s m args below meth cd H locs cells slots Q (F0 m pc ls (.long x :: .ref (ga g a) :: st.map (tv g)))
  rw [he]
  have hat := wl_at (g := g) ha.1
  rw [ent_obj (by rw [ha.2.1]) hc] at hat
  have hkl : k < (fts c).length := by rw [fts_len hc]; exact hk
  refine va_put (D := gD g) (ci := c) C.2.1 C.2.2.1 C.2.2.2.2.2.1 (in_c hc) (yc c) (ty_c hc) (nm_c hc) C.2.2.2.2.1 C.2.2.2.2.2.2.2.1 hW (wl_D g h) hS a hat (cl_at hc) k hk (C.2.2.2.2.2.1 _ hw) (fun _ q => q) hfin (ty_c hc k hk) hn hfit (by rw [fvs_len]; exact hkl) hd (fun H1 locs1 hP _ hS1 => ?_)
  have hW1 : Wd g (uL h a k x) H1 := Wd.upd ha.1 rfl (fun j hj => ent_uL hj) (by
    rw [ent_obj (h := uL h a k x) (c := c) (show (hK h a).1 = c by rw [ha.2.1]) hc, fvs_set (h' := uL h a k x) hkl (by rw [ht]; show Value.long (if a = a ∧ k = k then x else _) = _; rw [if_pos ⟨rfl, rfl⟩]) (fun j _ hj => fvv_uL hj)]) hP
  exact kk p e s m args below meth cd C Q hQ H1 locs1 cells slots ls hW1 hS1 hl h1 h2 hz
/-- a final reference, in a constructor of its class -/
theorem ok_putRF {i c k a r : Nat} (hd : decode (Mc M) pc = .ok (.putfield i, 3)) (hf : FW (My M).cls i c k) (ha : Is h a c 0) (ht : (fts c).getD k 0 = 2) (hfin : (Tc c k).2.2.2 = true) (hin : (My M).name = "<init>") (hdc : (Tc c k).1 = (My M).cls) (hn : ∀ q : Nat, narrow (yc c k) (.ref q) = .ref q) (hfit : ∀ q : Nat, fits (yc c k) (.ref q) = true) (kk : Go g M (pc + 3) lo st (uR h a k (some r)) b Post) : Go g M pc lo (.ref r :: .ref a :: st) h b Post := by
  intro p e s m args below meth cd C Q hQ H locs cells slots ls hW hS hl h1 h2 hz
  obtain ⟨hc, hk, hw⟩ := hf
  have he : ga g a = gb g + a := C.1.1 a ha.2.2
  show W p (gl g) e (Mm M) s m args below meth cd H locs cells slots Q (F0 m pc ls (.ref (ga g r) :: .ref (ga g a) :: st.map (tv g)))
  rw [he]
  have hat := wl_at (g := g) ha.1
  rw [ent_obj (by rw [ha.2.1]) hc] at hat
  have hkl : k < (fts c).length := by rw [fts_len hc]; exact hk
  refine va_putF (D := gD g) (ci := c) C.2.1 C.2.2.1 C.2.2.2.2.2.1 (in_c hc) (yc c) (ty_c hc) (nm_c hc) C.2.2.2.2.1 C.2.2.2.2.2.2.2.1 hW (wl_D g h) hS a hat (cl_at hc) k hk (C.2.2.2.2.2.1 _ hw) (fun _ q => q) hfin (C.2.2.2.2.2.2.1.trans hin) hdc (ty_c hc k hk) (hn _) (hfit _) (by rw [fvs_len]; exact hkl) hd (fun H1 locs1 hP _ hS1 => ?_)
  have hW1 : Wd g (uR h a k (some r)) H1 := Wd.upd ha.1 rfl (fun j hj => ent_uR hj) (by
    rw [ent_obj (h := uR h a k (some r)) (c := c) (show (hK h a).1 = c by rw [ha.2.1]) hc, fvs_set (h' := uR h a k (some r)) hkl (by rw [ht]; show va_rf ((if a = a ∧ k = k then some r else _).map (ga g)) = _; rw [if_pos ⟨rfl, rfl⟩]; rfl) (fun j _ hj => fvv_uR hj)]) hP
  exact kk p e s m args below meth cd C Q hQ H1 locs1 cells slots ls hW1 hS1 hl h1 h2 hz
/-! arrays -/
theorem ok_iaload {a n : Nat} {i : Int32} (hd : decode (Mc M) pc = .ok (.iaload, 1)) (ha : Is h a 7 n) (hi : vp_in i n) (kk : Go g M (pc + 1) lo (.int (hI h a i.toNatClampNeg) :: st) h b Post) : Go g M pc lo (.int i :: .ref a :: st) h b Post := by
  intro p e s m args below meth cd C Q hQ H locs cells slots ls hW hS hl h1 h2 hz
  show W p (gl g) e (Mm M) s m args below meth cd H locs cells slots Q (F0 m pc ls (.int i :: .ref (ga g a) :: st.map (tv g)))
  rw [C.1.1 a ha.2.2]
  have hat := wl_at (g := g) ha.1
  rw [ent_7 ha.2.1] at hat
  exact va_iald C.2.1 C.2.2.1 C.2.2.2.2.2.2.2.1 hW a 1 hat rfl hi hd (kk p e s m args below meth cd C Q hQ H locs cells slots ls hW hS hl h1 h2 hz)
theorem ok_baload {a n : Nat} {i : Int32} (hd : decode (Mc M) pc = .ok (.baload, 1)) (ha : Is h a 6 n) (hi : vp_in i n) (kk : Go g M (pc + 1) lo (.int (hI h a i.toNatClampNeg) :: st) h b Post) : Go g M pc lo (.int i :: .ref a :: st) h b Post := by
  intro p e s m args below meth cd C Q hQ H locs cells slots ls hW hS hl h1 h2 hz
  show W p (gl g) e (Mm M) s m args below meth cd H locs cells slots Q (F0 m pc ls (.int i :: .ref (ga g a) :: st.map (tv g)))
  rw [C.1.1 a ha.2.2]
  have hat := wl_at (g := g) ha.1
  rw [ent_6 ha.2.1] at hat
  exact va_bald C.2.1 C.2.2.1 C.2.2.2.2.2.2.2.1 hW a 0 hat rfl hi hd (kk p e s m args below meth cd C Q hQ H locs cells slots ls hW hS hl h1 h2 hz)
theorem ok_laload {a n : Nat} {i : Int32} (hd : decode (Mc M) pc = .ok (.laload, 1)) (ha : Is h a 8 n) (hi : vp_in i n) (kk : Go g M (pc + 1) lo (.long (hL h a i.toNatClampNeg) :: st) h b Post) : Go g M pc lo (.int i :: .ref a :: st) h b Post := by
  intro p e s m args below meth cd C Q hQ H locs cells slots ls hW hS hl h1 h2 hz
  show W p (gl g) e (Mm M) s m args below meth cd H locs cells slots Q (F0 m pc ls (.int i :: .ref (ga g a) :: st.map (tv g)))
  rw [C.1.1 a ha.2.2]
  have hat := wl_at (g := g) ha.1
  rw [ent_8 ha.2.1] at hat
  exact va_lald C.2.1 C.2.2.1 C.2.2.2.2.2.2.2.1 hW a 2 hat rfl hi hd (kk p e s m args below meth cd C Q hQ H locs cells slots ls hW hS hl h1 h2 hz)
theorem ok_aaloadP {a n r : Nat} {i : Int32} (hd : decode (Mc M) pc = .ok (.aaload, 1)) (ha : Is h a 9 n) (hi : vp_in i n) (hr : hR h a i.toNatClampNeg = some r) (kk : Go g M (pc + 1) lo (.ref r :: st) h b Post) : Go g M pc lo (.int i :: .ref a :: st) h b Post := by
  intro p e s m args below meth cd C Q hQ H locs cells slots ls hW hS hl h1 h2 hz
  show W p (gl g) e (Mm M) s m args below meth cd H locs cells slots Q (F0 m pc ls (.int i :: .ref (ga g a) :: st.map (tv g)))
  rw [C.1.1 a ha.2.2]
  have hat := wl_at (g := g) ha.1
  rw [ent_9 ha.2.1] at hat
  refine va_aldq C.2.1 C.2.2.1 C.2.2.2.2.2.2.2.1 hW a 3 hat rfl hi hd ?_
  show W p (gl g) e (Mm M) s m args below meth cd H locs cells slots Q (F0 m (pc + 1) ls (va_rf ((hR h a i.toNatClampNeg).map (ga g)) :: st.map (tv g)))
  rw [hr]
  exact kk p e s m args below meth cd C Q hQ H locs cells slots ls hW hS hl h1 h2 hz
theorem ok_aaloadS {a n r : Nat} {i : Int32} (hd : decode (Mc M) pc = .ok (.aaload, 1)) (ha : Is h a 10 n) (hi : vp_in i n) (hr : hR h a i.toNatClampNeg = some r) (kk : Go g M (pc + 1) lo (.ref r :: st) h b Post) : Go g M pc lo (.int i :: .ref a :: st) h b Post := by
  intro p e s m args below meth cd C Q hQ H locs cells slots ls hW hS hl h1 h2 hz
  show W p (gl g) e (Mm M) s m args below meth cd H locs cells slots Q (F0 m pc ls (.int i :: .ref (ga g a) :: st.map (tv g)))
  rw [C.1.1 a ha.2.2]
  have hat := wl_at (g := g) ha.1
  rw [ent_10 ha.2.1] at hat
  refine va_aldq C.2.1 C.2.2.1 C.2.2.2.2.2.2.2.1 hW a 4 hat rfl hi hd ?_
  show W p (gl g) e (Mm M) s m args below meth cd H locs cells slots Q (F0 m (pc + 1) ls (va_rf ((hR h a i.toNatClampNeg).map (ga g)) :: st.map (tv g)))
  rw [hr]
  exact kk p e s m args below meth cd C Q hQ H locs cells slots ls hW hS hl h1 h2 hz
theorem row_uI (h : Hp) (a k : Nat) (x : Int32) : (uI h a k x).1 a = upd (h.1 a) k x := by
  funext j
  show (if a = a ∧ j = k then x else h.1 a j) = if j = k then x else h.1 a j
  by_cases hj : j = k <;> simp [hj]
theorem row_uL (h : Hp) (a k : Nat) (x : Int64) : (uL h a k x).2.1 a = vp_updL (h.2.1 a) k x := by
  funext j
  show (if a = a ∧ j = k then x else h.2.1 a j) = if j = k then x else h.2.1 a j
  by_cases hj : j = k <;> simp [hj]
theorem row_uR (h : Hp) (a k : Nat) (x : Option Nat) : (uR h a k x).2.2.1 a = va_up (h.2.2.1 a) k x := by
  funext j
  show (if a = a ∧ j = k then x else h.2.2.1 a j) = if j = k then x else h.2.2.1 a j
  by_cases hj : j = k <;> simp [hj]
theorem ok_iastore {a n : Nat} {i x : Int32} (hd : decode (Mc M) pc = .ok (.iastore, 1)) (ha : Is h a 7 n) (hi : vp_in i n) (kk : Go g M (pc + 1) lo st (uI h a i.toNatClampNeg x) b Post) : Go g M pc lo (.int x :: .int i :: .ref a :: st) h b Post := by
  intro p e s m args below meth cd C Q hQ H locs cells slots ls hW hS hl h1 h2 hz
  show W p (gl g) e (Mm M) s m args below meth cd H locs cells slots Q (F0 m pc ls (.int x :: .int i :: .ref (ga g a) :: st.map (tv g)))
  rw [C.1.1 a ha.2.2]
  have hat := wl_at (g := g) ha.1
  rw [ent_7 ha.2.1] at hat
  refine va_iast C.2.1 C.2.2.1 C.2.2.2.2.2.2.2.1 hW (wl_D g h) hS a 1 hat rfl hi hd (fun H1 locs1 hP _ hS1 => ?_)
  exact kk p e s m args below meth cd C Q hQ H1 locs1 cells slots ls (Wd.upd ha.1 rfl (fun j hj => ent_uI hj) (by rw [ent_7 (h := uI h a i.toNatClampNeg x) ha.2.1, row_uI]) hP) hS1 hl h1 h2 hz
theorem ok_bastore {a n : Nat} {i x : Int32} (hd : decode (Mc M) pc = .ok (.bastore, 1)) (ha : Is h a 6 n) (hi : vp_in i n) (kk : Go g M (pc + 1) lo st (uI h a i.toNatClampNeg (vp_nar .byte x)) b Post) : Go g M pc lo (.int x :: .int i :: .ref a :: st) h b Post := by
  intro p e s m args below meth cd C Q hQ H locs cells slots ls hW hS hl h1 h2 hz
  show W p (gl g) e (Mm M) s m args below meth cd H locs cells slots Q (F0 m pc ls (.int x :: .int i :: .ref (ga g a) :: st.map (tv g)))
  rw [C.1.1 a ha.2.2]
  have hat := wl_at (g := g) ha.1
  rw [ent_6 ha.2.1] at hat
  refine va_bast C.2.1 C.2.2.1 C.2.2.2.2.2.2.2.1 hW (wl_D g h) hS a 0 hat rfl hi hd (fun H1 locs1 hP _ hS1 => ?_)
  exact kk p e s m args below meth cd C Q hQ H1 locs1 cells slots ls (Wd.upd ha.1 rfl (fun j hj => ent_uI hj) (by rw [ent_6 (h := uI h a i.toNatClampNeg (vp_nar .byte x)) ha.2.1, row_uI]) hP) hS1 hl h1 h2 hz
theorem ok_lastore {a n : Nat} {i : Int32} {x : Int64} (hd : decode (Mc M) pc = .ok (.lastore, 1)) (ha : Is h a 8 n) (hi : vp_in i n) (kk : Go g M (pc + 1) lo st (uL h a i.toNatClampNeg x) b Post) : Go g M pc lo (.long x :: .int i :: .ref a :: st) h b Post := by
  intro p e s m args below meth cd C Q hQ H locs cells slots ls hW hS hl h1 h2 hz
  show W p (gl g) e (Mm M) s m args below meth cd H locs cells slots Q (F0 m pc ls (.long x :: .int i :: .ref (ga g a) :: st.map (tv g)))
  rw [C.1.1 a ha.2.2]
  have hat := wl_at (g := g) ha.1
  rw [ent_8 ha.2.1] at hat
  refine va_last C.2.1 C.2.2.1 C.2.2.2.2.2.2.2.1 hW (wl_D g h) hS a 2 hat rfl hi hd (fun H1 locs1 hP _ hS1 => ?_)
  exact kk p e s m args below meth cd C Q hQ H1 locs1 cells slots ls (Wd.upd ha.1 rfl (fun j hj => ent_uL hj) (by rw [ent_8 (h := uL h a i.toNatClampNeg x) ha.2.1, row_uL]) hP) hS1 hl h1 h2 hz
theorem map_up {g : GG} (f : Nat → Option Nat) (k r : Nat) : (fun j => (va_up f k (some r) j).map (ga g)) = va_up (fun j => (f j).map (ga g)) k (some (ga g r)) := by
  funext j
  unfold va_up
  by_cases hj : j = k <;> simp [hj]
theorem ok_aastoreP {a n r : Nat} {i : Int32} (hd : decode (Mc M) pc = .ok (.aastore, 1)) (ha : Is h a 9 n) (hr : Is h r 0 0) (hi : vp_in i n) (kk : Go g M (pc + 1) lo st (uR h a i.toNatClampNeg (some r)) b Post) : Go g M pc lo (.ref r :: .int i :: .ref a :: st) h b Post := by
  intro p e s m args below meth cd C Q hQ H locs cells slots ls hW hS hl h1 h2 hz
  show W p (gl g) e (Mm M) s m args below meth cd H locs cells slots Q (F0 m pc ls (.ref (ga g r) :: .int i :: .ref (ga g a) :: st.map (tv g)))
  have her := C.1.1 r hr.2.2
  rw [C.1.1 a ha.2.2]
  have hat := wl_at (g := g) ha.1
  rw [ent_9 ha.2.1] at hat
  have hrt := wl_at (g := g) hr.1
  rw [ent_obj (c := 0) (by rw [hr.2.1]) (by decide), ← her] at hrt
  refine va_astq (r := (RX0, TX0, 7)) C.2.1 C.2.2.1 C.2.2.2.2.2.2.2.1 hW (wl_D g h) hS a 3 r 0 hat rfl hrt rfl hi hd (fun H1 locs1 hP _ hS1 => ?_)
  exact kk p e s m args below meth cd C Q hQ H1 locs1 cells slots ls (Wd.upd ha.1 rfl (fun j hj => ent_uR hj) (by rw [ent_9 (h := uR h a i.toNatClampNeg (some r)) ha.2.1, row_uR, map_up]) hP) hS1 hl h1 h2 hz
theorem ok_aastoreS {a n r : Nat} {i : Int32} (hd : decode (Mc M) pc = .ok (.aastore, 1)) (ha : Is h a 10 n) (hr : Is h r 1 0) (hi : vp_in i n) (kk : Go g M (pc + 1) lo st (uR h a i.toNatClampNeg (some r)) b Post) : Go g M pc lo (.ref r :: .int i :: .ref a :: st) h b Post := by
  intro p e s m args below meth cd C Q hQ H locs cells slots ls hW hS hl h1 h2 hz
  show W p (gl g) e (Mm M) s m args below meth cd H locs cells slots Q (F0 m pc ls (.ref (ga g r) :: .int i :: .ref (ga g a) :: st.map (tv g)))
  have her := C.1.1 r hr.2.2
  rw [C.1.1 a ha.2.2]
  have hat := wl_at (g := g) ha.1
  rw [ent_10 ha.2.1] at hat
  have hrt := wl_at (g := g) hr.1
  rw [ent_obj (c := 1) (by rw [hr.2.1]) (by decide), ← her] at hrt
  refine va_astq (r := (RX1, TX1, 3)) C.2.1 C.2.2.1 C.2.2.2.2.2.2.2.1 hW (wl_D g h) hS a 4 r 1 hat rfl hrt rfl hi hd (fun H1 locs1 hP _ hS1 => ?_)
  exact kk p e s m args below meth cd C Q hQ H1 locs1 cells slots ls (Wd.upd ha.1 rfl (fun j hj => ent_uR hj) (by rw [ent_10 (h := uR h a i.toNatClampNeg (some r)) ha.2.1, row_uR, map_up]) hP) hS1 hl h1 h2 hz
end HeapRows
