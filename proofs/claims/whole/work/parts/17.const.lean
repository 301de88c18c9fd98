/-! ===== constants: the array ABOVE, the words of the text, what the tables say at a state ===== -/
abbrev gA (g : GG) : Nat → Prop := fun q => gb g ≤ q
def stI : List Nat := [124, 126, 128, 130, 132, 134, 89, 102, 106, 46, 55, 60, 114, 65, 73]
def stT : List String := ["person", "hoper", "wisher", "gentleman", "child", "patron", "purse", "value", "guess", "coins", "law", "diver", "lie", "silent", "swap"]
def stN : List Nat := [6, 5, 6, 9, 5, 6, 5, 5, 5, 5, 3, 5, 3, 6, 4]
def stB : List (List Int32) := [[112, 101, 114, 115, 111, 110], [104, 111, 112, 101, 114], [119, 105, 115, 104, 101, 114], [103, 101, 110, 116, 108, 101, 109, 97, 110], [99, 104, 105, 108, 100], [112, 97, 116, 114, 111, 110], [112, 117, 114, 115, 101], [118, 97, 108, 117, 101], [103, 117, 101, 115, 115], [99, 111, 105, 110, 115], [108, 97, 119], [100, 105, 118, 101, 114], [108, 105, 101], [115, 105, 108, 101, 110, 116], [115, 119, 97, 112]]
def abL : List Int32 := [-1, 0, 0, 0, 1, 3]
/-- a formatter that nobody asks, or null -/
def fm (g : GG) : Value := if ga g 6001 = 0 then .null else .ref 6000
def XF (g : GG) (U : State) : Prop :=
  va_Z "CoinFountain" "ABOVE" "[I" (.ref (ga g 2000)) (gA g) U U.heap ∧ va_T .int (ga g 2000) 6 (fun j => .int (abL.getD j 0)) (gA g) U U.heap ∧
  vk_S 15 stN stB (fun i => ga g (3000 + i)) (fun i => ga g (4000 + i)) (gA g) U U.heap ∧ (∀ i, i < 15 → vk_R RX3 (stI.getD i 0) (stT.getD i "") (ga g (3000 + i)) U) ∧
  va_Z "java/lang/String" "COMPACT_STRINGS" "Z" (.int 1) (gA g) U U.heap ∧ va_Z "jdk/internal/util/Preconditions" "SIOOBE_FORMATTER" "Ljava/util/function/BiFunction;" (tv g (fm g)) (gA g) U U.heap ∧
  va_AO RX0 U ∧ va_AO RX1 U ∧ va_Nw (.methodLinkNest RX2 40 yX0_init "CoinFountain") U ∧ va_Nw (.methodLinkNest RX4 32 yX3_init "CoinFountain") U ∧ va_Nw (.methodLinkNest RX4 43 yX1_init "CoinFountain") U
def Gx (g : GG) : Prop := ∀ U, gx g U → XF g U
theorem XF.stay {g : GG} {s U : State} (h : XF g s) (hW : s.WarmedH U.vm) (hz : gb g ≤ s.heap.size) (hq : ∀ q : Nat, q < gb g → U.heap[q]? = s.heap[q]?) : XF g U := by
  have hk : ∀ a : Nat, a < s.heap.size → ¬ gA g a → U.heap[a]? = s.heap[a]? := fun a _ ha => hq a (Nat.not_le.mp ha)
  obtain ⟨a1, a2, a3, a4, a5, a6, a7, a8, a9, a10, a11⟩ := h
  exact ⟨(va_Z.moved hW.alike a1).kept hk, (va_T.moved hW.alike a2).kept hk, (vk_S.moved hW.alike a3).kept hk, fun i hi => (a4 i hi).warm hW, (va_Z.moved hW.alike a5).kept hk, (va_Z.moved hW.alike a6).kept hk, va_AO.moved hW.alike a7, va_AO.moved hW.alike a8, a9.warmM hW, a10.warmM hW, a11.warmM hW⟩
section ConstRows
variable {g : GG} {M M' : MM} {pc i n : Nat} {lo : List (Option Value)} {st : List Value} {h : Hp} {b b' : Nat × Nat} {Post : Option Value → Hp → Prop}
theorem ok_gets {C nm d : String} {v : Value} (hd : decode (Mc M) pc = .ok (.getstatic i, 3)) (hw : Cond.fieldLink (My M).cls i C nm d ∈ tb) (hZ : ∀ U, gx g U → va_Z C nm d (tv g v) (gA g) U U.heap) (kk : Go g M (pc + 3) lo (v :: st) h b Post) : Go g M pc lo st h b Post := by
  intro p e s m args below meth cd C Q hQ H locs cells slots ls hW hS hl h1 h2 hz
  exact va_gets C.2.1 C.2.2.1 (hZ s C.2.2.2.2.2.2.2.2.1) hS C.2.2.2.2.1 (C.2.2.2.2.2.1 _ hw) (fun _ q => q) hd (kk p e s m args below meth cd C Q hQ H locs cells slots ls hW hS hl h1 h2 hz)
theorem ok_ti {t N : Nat} {f : Nat → Value} {x j : Int32} (hd : decode (Mc M) pc = .ok (.iaload, 1)) (hT : ∀ U, gx g U → va_T .int (ga g t) N f (gA g) U U.heap) (hi : vp_in j N) (hx : f j.toNatClampNeg = .int x) (kk : Go g M (pc + 1) lo (.int x :: st) h b Post) : Go g M pc lo (.int j :: .ref t :: st) h b Post := by
  intro p e s m args below meth cd C Q hQ H locs cells slots ls hW hS hl h1 h2 hz
  exact va_ti C.2.1 C.2.2.1 (hT s C.2.2.2.2.2.2.2.2.1) hS hi hx hd (kk p e s m args below meth cd C Q hQ H locs cells slots ls hW hS hl h1 h2 hz)
theorem ok_tb {t N : Nat} {f : Nat → Value} {x j : Int32} (hd : decode (Mc M) pc = .ok (.baload, 1)) (hT : ∀ U, gx g U → va_T .byte (ga g t) N f (gA g) U U.heap) (hi : vp_in j N) (hx : f j.toNatClampNeg = .int x) (kk : Go g M (pc + 1) lo (.int x :: st) h b Post) : Go g M pc lo (.int j :: .ref t :: st) h b Post := by
  intro p e s m args below meth cd C Q hQ H locs cells slots ls hW hS hl h1 h2 hz
  exact va_tb C.2.1 C.2.2.1 (hT s C.2.2.2.2.2.2.2.2.1) hS hi hx hd (kk p e s m args below meth cd C Q hQ H locs cells slots ls hW hS hl h1 h2 hz)
theorem ok_tlen {t N : Nat} {ty : FieldType} {f : Nat → Value} {x : Int32} (hd : decode (Mc M) pc = .ok (.arraylength, 1)) (hT : ∀ U, gx g U → va_T ty (ga g t) N f (gA g) U U.heap) (hx : Int32.ofNat N = x) (kk : Go g M (pc + 1) lo (.int x :: st) h b Post) : Go g M pc lo (.ref t :: st) h b Post := by
  intro p e s m args below meth cd C Q hQ H locs cells slots ls hW hS hl h1 h2 hz
  exact va_tlen C.2.1 C.2.2.1 (hT s C.2.2.2.2.2.2.2.2.1) hS hx hd (kk p e s m args below meth cd C Q hQ H locs cells slots ls hW hS hl h1 h2 hz)
theorem ok_getX {o nm d : String} {q : Nat} {v : Value} (hd : decode (Mc M) pc = .ok (.getfield i, 3)) (hw : Cond.fieldLink (My M).cls i o nm d ∈ tb) (hE : ∀ U, gx g U → va_OF o nm d (tv g v) (ga g q) (gA g) U U.heap) (kk : Go g M (pc + 3) lo (v :: st) h b Post) : Go g M pc lo (.ref q :: st) h b Post := by
  intro p e s m args below meth cd C Q hQ H locs cells slots ls hW hS hl h1 h2 hz
  exact vk_getf C.2.1 C.2.2.1 (hE s C.2.2.2.2.2.2.2.2.1) hS C.2.2.2.2.1 (C.2.2.2.2.2.1 _ hw) (fun _ q => q) hd (kk p e s m args below meth cd C Q hQ H locs cells slots ls hW hS hl h1 h2 hz)
theorem ok_ldcS {tx : String} {q : Nat} (hd : decode (Mc M) pc = .ok (.ldc i, 2)) (hZ : ∀ U, gx g U → vk_R (My M).cls i tx (ga g q) U) (kk : Go g M (pc + 2) lo (.ref q :: st) h b Post) : Go g M pc lo st h b Post := by
  intro p e s m args below meth cd C Q hQ H locs cells slots ls hW hS hl h1 h2 hz
  exact va_ldcS C.2.1 C.2.2.1 C.2.2.2.2.1 (hZ s C.2.2.2.2.2.2.2.2.1) hd (kk p e s m args below meth cd C Q hQ H locs cells slots ls hW hS hl h1 h2 hz)
theorem ok_callVX {As : List Value} {a : Nat} (hd : decode (Mc M) pc = .ok (.invokevirtual i, 3)) (hM : MV M' n) (hw : Cond.methodLink (My M).cls i (My M') ∈ tb) (hrv : ∀ (s : State) (H : Heap) (locs : List Loc), gx g s → va_S (gA g) s.heap H locs → ∃ cell : Cell, H[ga g a]? = some cell ∧ cell.vm.isStatics = false ∧ s.vm.findClass (My M').cls = some cell.cls) (hA : As.length = n) (hn : (spl (.ref a :: As)).length ≤ Ml M') (hrm : (Mm M').frames + 1 ≤ (Mm M).frames ∧ 8 + (Ml M' + 11) + (Mm M').locals ≤ (Mm M).locals) (hst : (st.map fun v => v.category).sum ≤ 8) (hb1 : b'.1 + (Mm M').cells = b.1) (hb2 : b'.2 + (Mm M').slots = b.2)
    (K : Sp g M' (.ref a :: As) h (fun r h' => Go g M (pc + 3) lo (psh r st) h' b' Post)) : Go g M pc lo (pus As (.ref a :: st)) h b Post := by
  rw [pus_eq]
  intro p e s m args below meth c C Q hQ H locs cells slots ls hW hS hl h1 h2 hz T hT X
  have hsz := sz_of X hT hW C.2.2.2.2.2.2.2.2.2 hz
  obtain ⟨hMI, hinst, hsel⟩ := hM
  obtain ⟨hpl, hco, hini, hd1, hd2, hd3⟩ := hMI
  refine after_run C hQ hS hl h1 h2 hz hsz hb1 hb2 (va_runV (b := ga g a) (As := As.map (tv g)) (n := n) ⟨C.2.1, C.2.2.1, C.2.2.2.1, C.2.2.2.2.1, C.2.2.2.2.2.1⟩ (met_of C.1 ⟨hpl, hco, hini, hd1, hd2, hd3⟩ hn K) ⟨callB_of n C.2.2.2.2.2.1 (tb_GoodIn (tb_cons hco)) rfl rfl rfl (C.2.2.2.2.2.1 _ hini) (C.2.2.2.2.2.1 _ hw) ⟨hd1, hd2, hd3⟩ hrm, C.2.2.2.2.2.1 _ hinst, C.2.2.2.2.2.1 _ hsel⟩ ⟨En.blind C.1 _, hrv s H locs C.2.2.2.2.2.2.2.2.1 hS, fun U hU hWm => ⟨rfl, by rw [hU]; exact hW, by rw [hU]; exact hsz, va_K.moved hWm.alike C.2.2.2.2.2.2.2.1, C.1.2 s U C.2.2.2.2.2.2.2.2.1 hWm (fun q hq => by rw [hU]; exact hS.2.1 q (Nat.lt_of_lt_of_le hq C.2.2.2.2.2.2.2.2.2) (Nat.not_le.mpr hq))⟩⟩ rfl (by rw [List.length_map]; exact hA) hl.1 (rev_map As (.ref a :: st)) (lv_room (by rw [cat_map]; exact hst)) hd ⟨by omega, by omega⟩) hT X
end ConstRows
theorem st_rv {g : GG} (X : Gx g) {i : Nat} (hi : i < 15) (s : State) (H : Heap) (locs : List Loc) (hs : gx g s) (hS : va_S (gA g) s.heap H locs) : ∃ cell : Cell, H[ga g (3000 + i)]? = some cell ∧ cell.vm.isStatics = false ∧ s.vm.findClass "java/lang/String" = some cell.cls := by
  have := vk_recv (i := i) (X s hs).2.2.1 hi hS
  exact this
theorem sp_J0_coder_7d493 {g : GG} {h : Hp} {Post : Option Value → Hp → Prop} (X : Gx g) {i : Nat} (hi : i < 15) (K : Post (some (.int 0)) h) : Sp g mJ0_coder_7d493 [.ref (3000 + i)] h Post := by
  show Go g mJ0_coder_7d493 0 [_] [] _ _ _
  refine ok_gets (v := .int 1) dJ0_coder_7d493_0 w_599 (fun U hU => (X U hU).2.2.2.2.1) ?_
  refine ok_if_eq (tgt := 13) dJ0_coder_7d493_3 (by decide) (fun c9 => absurd c9 (by decide)) (fun _ => ?_)
  refine ok_aload_n dJ0_coder_7d493_6 rfl rfl ?_
  refine ok_getX (v := .int 0) dJ0_coder_7d493_7 w_1220 (fun U hU => ((X U hU).2.2.1.1 i hi).2.1) ?_
  refine ok_goto (tgt := 14) dJ0_coder_7d493_10 (by decide) ?_
  refine ok_ireturn dJ0_coder_7d493_14 rfl rfl ?_
  first | exact K | (simp only [↓reduceIte] at K; exact K)
theorem sp_J0_isLatin1_aae02 {g : GG} {h : Hp} {Post : Option Value → Hp → Prop} (X : Gx g) {i : Nat} (hi : i < 15) (K : Post (some (.int 1)) h) : Sp g mJ0_isLatin1_aae02 [.ref (3000 + i)] h Post := by
  show Go g mJ0_isLatin1_aae02 0 [_] [] _ _ _
  refine ok_gets (v := .int 1) dJ0_isLatin1_aae02_0 w_599 (fun U hU => (X U hU).2.2.2.2.1) ?_
  refine ok_if_eq (tgt := 17) dJ0_isLatin1_aae02_3 (by decide) (fun c9 => absurd c9 (by decide)) (fun _ => ?_)
  refine ok_aload_n dJ0_isLatin1_aae02_6 rfl rfl ?_
  refine ok_getX (v := .int 0) dJ0_isLatin1_aae02_7 w_1220 (fun U hU => ((X U hU).2.2.1.1 i hi).2.1) ?_
  refine ok_if_ne (tgt := 17) dJ0_isLatin1_aae02_10 (by decide) (fun c9 => absurd rfl c9) (fun _ => ?_)
  refine ok_iconst (v := 1) dJ0_isLatin1_aae02_13 (by decide) ?_
  refine ok_goto (tgt := 18) dJ0_isLatin1_aae02_14 (by decide) ?_
  refine ok_ireturn dJ0_isLatin1_aae02_18 rfl rfl ?_
  first | exact K | (simp only [↓reduceIte] at K; exact K)
theorem sp_J0_length_8abf5 {g : GG} {h : Hp} {Post : Option Value → Hp → Prop} (X : Gx g) {i : Nat} (hi : i < 15) (K : Post (some (.int (nI (stN.getD i 0)))) h) : Sp g mJ0_length_8abf5 [.ref (3000 + i)] h Post := by
  show Go g mJ0_length_8abf5 0 [_] [] _ _ _
  refine ok_aload_n dJ0_length_8abf5_0 rfl rfl ?_
  refine ok_getX (v := .ref (4000 + i)) dJ0_length_8abf5_1 w_1219 (fun U hU => ((X U hU).2.2.1.1 i hi).2.2.1) ?_
  refine ok_tlen dJ0_length_8abf5_4 (fun U hU => ((X U hU).2.2.1.1 i hi).2.2.2) rfl ?_
  refine ok_aload_n dJ0_length_8abf5_5 rfl rfl ?_
  refine ok_callVX (M' := mJ0_coder_7d493) (b' := (0, 0)) (As := []) dJ0_length_8abf5_6 iJ0_coder_7d493 w_595 (st_rv X hi) rfl (Nat.le_of_ble_eq_true rfl) ⟨Nat.le_of_ble_eq_true rfl, Nat.le_of_ble_eq_true rfl⟩ (Nat.le_of_ble_eq_true rfl) rfl rfl ?_
  refine sp_J0_coder_7d493 X hi ?_
  refine ok_ishr dJ0_length_8abf5_9 ?_
  refine ok_ireturn dJ0_length_8abf5_10 rfl rfl ?_
  rw [sb_shr0]
  exact K
theorem sp_J3_checkIndex_8e157 {g : GG} {h : Hp} {Post : Option Value → Hp → Prop} {j n x : Nat} (hn : n < 1000) (hj : j < n) (K : Post (some (.int (nI j))) h) : Sp g mJ3_checkIndex_8e157 [.int (nI j), .int (nI n), .ref x] h Post := by
  show Go g mJ3_checkIndex_8e157 0 [_, _, _] [] _ _ _
  refine ok_iload_n dJ3_checkIndex_8e157_0 rfl rfl ?_
  refine ok_if_lt (tgt := 9) dJ3_checkIndex_8e157_1 (by decide) (fun c9 => absurd c9 (nI_pos (by omega))) (fun _ => ?_)
  refine ok_iload_n dJ3_checkIndex_8e157_4 rfl rfl ?_
  refine ok_iload_n dJ3_checkIndex_8e157_5 rfl rfl ?_
  refine ok_icmp_lt (tgt := 16) dJ3_checkIndex_8e157_6 (by decide) (fun _ => ?_) (fun c9 => absurd (nI_lt hj (by omega)) c9)
  refine ok_iload_n dJ3_checkIndex_8e157_16 rfl rfl ?_
  refine ok_ireturn dJ3_checkIndex_8e157_17 rfl rfl ?_
  first | exact K | (simp only [↓reduceIte] at K; exact K)
theorem sp_J3_checkIndex_8e157_0 {g : GG} {h : Hp} {Post : Option Value → Hp → Prop} {j n : Nat} (hn : n < 1000) (hj : j < n) (K : Post (some (.int (nI j))) h) : Sp g mJ3_checkIndex_8e157 [.int (nI j), .int (nI n), .null] h Post := by
  show Go g mJ3_checkIndex_8e157 0 [_, _, _] [] _ _ _
  refine ok_iload_n dJ3_checkIndex_8e157_0 rfl rfl ?_
  refine ok_if_lt (tgt := 9) dJ3_checkIndex_8e157_1 (by decide) (fun c9 => absurd c9 (nI_pos (by omega))) (fun _ => ?_)
  refine ok_iload_n dJ3_checkIndex_8e157_4 rfl rfl ?_
  refine ok_iload_n dJ3_checkIndex_8e157_5 rfl rfl ?_
  refine ok_icmp_lt (tgt := 16) dJ3_checkIndex_8e157_6 (by decide) (fun _ => ?_) (fun c9 => absurd (nI_lt hj (by omega)) c9)
  refine ok_iload_n dJ3_checkIndex_8e157_16 rfl rfl ?_
  refine ok_ireturn dJ3_checkIndex_8e157_17 rfl rfl ?_
  first | exact K | (simp only [↓reduceIte] at K; exact K)
theorem sp_J0_checkIndex_df160 {g : GG} {h : Hp} {Post : Option Value → Hp → Prop} (X : Gx g) {j n : Nat} (hn : n < 1000) (hj : j < n) (K : Post none h) : Sp g mJ0_checkIndex_df160 [.int (nI j), .int (nI n)] h Post := by
  show Go g mJ0_checkIndex_df160 0 [_, _] [] _ _ _
  by_cases c : ga g 6001 = 0
  · have e : fm g = .null := if_pos c
    refine ok_iload_n dJ0_checkIndex_df160_0 rfl rfl ?_
    refine ok_iload_n dJ0_checkIndex_df160_1 rfl rfl ?_
    refine ok_gets (v := .null) dJ0_checkIndex_df160_2 w_615 (fun U hU => by have q := (X U hU).2.2.2.2.2.1; rw [e] at q; exact q) ?_
    refine ok_callS (M' := mJ3_checkIndex_8e157) (b' := (0, 0)) (As := [_, _, _]) dJ0_checkIndex_df160_5 iJ3_checkIndex_8e157 w_617 rfl (Nat.le_of_ble_eq_true rfl) ⟨Nat.le_of_ble_eq_true rfl, Nat.le_of_ble_eq_true rfl⟩ (Nat.le_of_ble_eq_true rfl) rfl rfl ?_
    refine sp_J3_checkIndex_8e157_0 hn hj ?_
    refine ok_pop dJ0_checkIndex_df160_8 rfl ?_
    refine ok_return dJ0_checkIndex_df160_9 rfl ?_
    first | exact K | (simp only [↓reduceIte] at K; exact K)
  · have e : fm g = .ref 6000 := if_neg c
    refine ok_iload_n dJ0_checkIndex_df160_0 rfl rfl ?_
    refine ok_iload_n dJ0_checkIndex_df160_1 rfl rfl ?_
    refine ok_gets (v := .ref 6000) dJ0_checkIndex_df160_2 w_615 (fun U hU => by have q := (X U hU).2.2.2.2.2.1; rw [e] at q; exact q) ?_
    refine ok_callS (M' := mJ3_checkIndex_8e157) (b' := (0, 0)) (As := [_, _, _]) dJ0_checkIndex_df160_5 iJ3_checkIndex_8e157 w_617 rfl (Nat.le_of_ble_eq_true rfl) ⟨Nat.le_of_ble_eq_true rfl, Nat.le_of_ble_eq_true rfl⟩ (Nat.le_of_ble_eq_true rfl) rfl rfl ?_
    refine sp_J3_checkIndex_8e157 hn hj ?_
    refine ok_pop dJ0_checkIndex_df160_8 rfl ?_
    refine ok_return dJ0_checkIndex_df160_9 rfl ?_
    first | exact K | (simp only [↓reduceIte] at K; exact K)
theorem st_lt : ∀ i, i < 15 → stN.getD i 0 < 20 := by decide
theorem st_c : ∀ i, i < 15 → ∀ j, j < stN.getD i 0 → (((stB.getD i []).getD j 0 &&& 255).toUInt32 % 65536).toInt32 = (stB.getD i []).getD j 0 ∧ narrow .char (.int ((stB.getD i []).getD j 0)) = .int ((stB.getD i []).getD j 0) := by decide +kernel
theorem sp_J1_charAt_3b067 {g : GG} {h : Hp} {Post : Option Value → Hp → Prop} (X : Gx g) {i : Nat} (hi : i < 15) {j : Nat} (hj : j < stN.getD i 0) (K : Post (some (.int ((stB.getD i []).getD j 0))) h) : Sp g mJ1_charAt_3b067 [.ref (4000 + i), .int (nI j)] h Post := by
  show Go g mJ1_charAt_3b067 0 [_, _] [] _ _ _
  have hl := st_lt i hi
  refine ok_iload_n dJ1_charAt_3b067_0 rfl rfl ?_
  refine ok_aload_n dJ1_charAt_3b067_1 rfl rfl ?_
  refine ok_tlen dJ1_charAt_3b067_2 (fun U hU => ((X U hU).2.2.1.1 i hi).2.2.2) rfl ?_
  refine ok_callS (M' := mJ0_checkIndex_df160) (b' := (0, 0)) (As := [_, _]) dJ1_charAt_3b067_3 iJ0_checkIndex_df160 w_612 rfl (Nat.le_of_ble_eq_true rfl) ⟨Nat.le_of_ble_eq_true rfl, Nat.le_of_ble_eq_true rfl⟩ (Nat.le_of_ble_eq_true rfl) rfl rfl ?_
  refine sp_J0_checkIndex_df160 X (show stN.getD i 0 < 1000 by omega) hj ?_
  refine ok_aload_n dJ1_charAt_3b067_6 rfl rfl ?_
  refine ok_iload_n dJ1_charAt_3b067_7 rfl rfl ?_
  refine ok_tb (x := (stB.getD i []).getD j 0) dJ1_charAt_3b067_8 (fun U hU => ((X U hU).2.2.1.1 i hi).2.2.2) (vp_in_nI hj (by omega)) (by rw [nI_clamp (by omega)]) ?_
  refine ok_sipush (v := 255) dJ1_charAt_3b067_9 (by decide) ?_
  refine ok_iand dJ1_charAt_3b067_12 ?_
  refine ok_i2c dJ1_charAt_3b067_13 ?_
  rw [(st_c i hi j hj).1]
  refine ok_ireturn dJ1_charAt_3b067_14 rfl (st_c i hi j hj).2 ?_
  first | exact K | (simp only [↓reduceIte] at K; exact K)
theorem sp_J0_charAt_5068e {g : GG} {h : Hp} {Post : Option Value → Hp → Prop} (X : Gx g) {i : Nat} (hi : i < 15) {j : Nat} (hj : j < stN.getD i 0) (K : Post (some (.int ((stB.getD i []).getD j 0))) h) : Sp g mJ0_charAt_5068e [.ref (3000 + i), .int (nI j)] h Post := by
  show Go g mJ0_charAt_5068e 0 [_, _] [] _ _ _
  refine ok_aload_n dJ0_charAt_5068e_0 rfl rfl ?_
  refine ok_callVX (M' := mJ0_isLatin1_aae02) (b' := (0, 0)) (As := []) dJ0_charAt_5068e_1 iJ0_isLatin1_aae02 w_605 (st_rv X hi) rfl (Nat.le_of_ble_eq_true rfl) ⟨Nat.le_of_ble_eq_true rfl, Nat.le_of_ble_eq_true rfl⟩ (Nat.le_of_ble_eq_true rfl) rfl rfl ?_
  refine sp_J0_isLatin1_aae02 X hi ?_
  refine ok_if_eq (tgt := 16) dJ0_charAt_5068e_4 (by decide) (fun c9 => absurd c9 (by decide)) (fun _ => ?_)
  refine ok_aload_n dJ0_charAt_5068e_7 rfl rfl ?_
  refine ok_getX (v := .ref (4000 + i)) dJ0_charAt_5068e_8 w_1219 (fun U hU => ((X U hU).2.2.1.1 i hi).2.2.1) ?_
  refine ok_iload_n dJ0_charAt_5068e_11 rfl rfl ?_
  refine ok_callS (M' := mJ1_charAt_3b067) (b' := (0, 0)) (As := [_, _]) dJ0_charAt_5068e_12 iJ1_charAt_3b067 w_609 rfl (Nat.le_of_ble_eq_true rfl) ⟨Nat.le_of_ble_eq_true rfl, Nat.le_of_ble_eq_true rfl⟩ (Nat.le_of_ble_eq_true rfl) rfl rfl ?_
  refine sp_J1_charAt_3b067 X hi hj ?_
  refine ok_ireturn dJ0_charAt_5068e_15 rfl (st_c i hi j hj).2 ?_
  first | exact K | (simp only [↓reduceIte] at K; exact K)
