/-! ===== the class: sheets, images, counts ===== -/
def Wb (b : Int32) : Prop := b = 0 ∨ b = 8 ∨ b = 16 ∨ b = 64
/-- the four sheets -/
def Shs (h : Hp) : Prop := ∀ s, s < 4 → Wb (hI h (41 + 2 * s) 0) ∧ ∃ z, z ≤ 40 ∧ hI h (41 + 2 * s) 1 = nI z
theorem rf_sh {h : Hp} (hv : Inv h) {s : Nat} (hs : s < 4) : hR h 40 (nI s).toNatClampNeg = some (41 + 2 * s) := by
  rw [nI_clamp (by omega)]
  rcases (show s = 0 ∨ s = 1 ∨ s = 2 ∨ s = 3 by omega) with rfl | rfl | rfl | rfl <;> exact rf hv rfl
theorem is_sh {h : Hp} (hv : Inv h) {s : Nat} (hs : s < 4) : Is h (41 + 2 * s) 1 0 := by
  rcases (show s = 0 ∨ s = 1 ∨ s = 2 ∨ s = 3 by omega) with rfl | rfl | rfl | rfl <;> exact is_lit hv (by decide) rfl
theorem is_sn {h : Hp} (hv : Inv h) {s : Nat} (hs : s < 4) : Is h (42 + 2 * s) 8 40 := by
  rcases (show s = 0 ∨ s = 1 ∨ s = 2 ∨ s = 3 by omega) with rfl | rfl | rfl | rfl <;> exact is_lit hv (by decide) rfl
theorem rf_sn {h : Hp} (hv : Inv h) {s : Nat} (hs : s < 4) : hR h (41 + 2 * s) 2 = some (42 + 2 * s) := by
  rcases (show s = 0 ∨ s = 1 ∨ s = 2 ∨ s = 3 by omega) with rfl | rfl | rfl | rfl <;> exact rf hv rfl
theorem in_4 {s : Nat} (hs : s < 4) : vp_in (nI s) 4 := vp_in_nI hs (by decide)
theorem ss_bad {v : Int32} (hb : v < 0 ∨ 4 ≤ v) : (if v < 0 then (0 : Int32) else if 4 ≤ v then 0 else 1) = 0 := by
  rcases hb with h | h
  · rw [if_pos h]
  · rw [if_pos h]; split <;> rfl
theorem ss_ok {s : Nat} (hs : s < 4) : (if nI s < 0 then (0 : Int32) else if 4 ≤ nI s then 0 else 1) = 1 := by
  rcases (show s = 0 ∨ s = 1 ∨ s = 2 ∨ s = 3 by omega) with rfl | rfl | rfl | rfl <;> rfl
theorem ss_or (v : Int32) : (v < 0 ∨ 4 ≤ v) ∨ ∃ s, s < 4 ∧ v = nI s := by
  rcases sw_of v 4 (by decide) with e | e
  · exact Or.inr e
  · left
    rw [i_lt, i_le]
    exact e
def zL (h : Hp) (a n : Nat) : Hp := (h.1, fun q j => if q = a ∧ j < n then 0 else h.2.1 q j, h.2.2)
theorem zL_0 (h : Hp) (a : Nat) : zL h a 0 = h := by
  have : (fun q j => if q = a ∧ j < 0 then (0 : Int64) else h.2.1 q j) = h.2.1 := funext fun q => funext fun j => if_neg (by omega)
  show (h.1, _, h.2.2) = h
  rw [this]
theorem zL_s (h : Hp) (a n : Nat) : uL (zL h a n) a n 0 = zL h a (n + 1) := by
  have : (fun q j => if q = a ∧ j = n then (0 : Int64) else if q = a ∧ j < n then 0 else h.2.1 q j) = fun q j => if q = a ∧ j < n + 1 then 0 else h.2.1 q j := by
    funext q j
    by_cases e : q = a ∧ j = n
    · rw [if_pos e, if_pos ⟨e.1, by omega⟩]
    · rw [if_neg e]
      by_cases e2 : q = a ∧ j < n
      · rw [if_pos e2, if_pos ⟨e2.1, by omega⟩]
      · rw [if_neg e2, if_neg (by omega)]
  show (h.1, _, h.2.2) = (h.1, _, h.2.2)
  rw [← this]
  rfl
theorem at_zu {h : Hp} {a k a' n : Nat} {v : Int32} : hI (zL (uI h a k v) a' n) a k = v := if_pos ⟨rfl, rfl⟩
/-- a number cut to its bits -/
def w_nar (b : Int32) (v : Int64) : Int64 := if b = 8 then v.toInt32.toInt8.toInt32.toInt64 else if b = 16 then v.toInt32.toInt16.toInt32.toInt64 else v
def w_part (z f n : Int32) : Int32 := if f < 0 then 0 else if n < 0 then 0 else if z < f then 0 else if z - f < n then 0 else 1
theorem sp_X1_isMissing {g : GG} {h : Hp} {Post : Option Value → Hp → Prop} {a : Nat} (ha : Is h a 1 0) (K : Post (some (.int (if hI h a 0 = 0 then 1 else 0))) h) : Sp g mX1_isMissing [.ref a] h Post := by
  show Go g mX1_isMissing 0 [_] [] _ _ _
  refine ok_aload_n dX1_isMissing_0 rfl rfl ?_
  refine ok_getI dX1_isMissing_1 f_X1_9 (by first | exact is_lit hv (by decide) rfl | exact is_sq hv hq | exact is_row hv hq | exact is_pn hv hq (by assumption) | assumption) rfl ?_
  refine ok_if_ne (tgt := 11) dX1_isMissing_4 (by decide) (fun c_4 => ?_) (fun c_4 => ?_)
  · refine ok_iconst (v := 0) dX1_isMissing_11 (by decide) ?_
    refine ok_ireturn dX1_isMissing_12 rfl rfl ?_
    first | exact K | (simp only [c_4, ↓reduceIte] at K; exact K)
  · refine ok_iconst (v := 1) dX1_isMissing_7 (by decide) ?_
    refine ok_goto (tgt := 12) dX1_isMissing_8 (by decide) ?_
    refine ok_ireturn dX1_isMissing_12 rfl rfl ?_
    first | exact K | (simp only [c_4, ↓reduceIte] at K; exact K)
theorem sp_X1_hasPart {g : GG} {h : Hp} {Post : Option Value → Hp → Prop} {a : Nat} (ha : Is h a 1 0) (f n : Int32) (K : Post (some (.int (w_part (hI h a 1) f n))) h) : Sp g mX1_hasPart [.ref a, .int f, .int n] h Post := by
  show Go g mX1_hasPart 0 [_, _, _] [] _ _ _
  unfold w_part at K
  refine ok_iload_n dX1_hasPart_0 rfl rfl ?_
  refine ok_if_lt (tgt := 30) dX1_hasPart_1 (by decide) (fun c_1 => ?_) (fun c_1 => ?_)
  · refine ok_iconst (v := 0) dX1_hasPart_30 (by decide) ?_
    refine ok_ireturn dX1_hasPart_31 rfl rfl ?_
    first | exact K | (simp only [c_1, ↓reduceIte] at K; exact K)
  · refine ok_iload_n dX1_hasPart_4 rfl rfl ?_
    refine ok_if_lt (tgt := 30) dX1_hasPart_5 (by decide) (fun c_5 => ?_) (fun c_5 => ?_)
    · refine ok_iconst (v := 0) dX1_hasPart_30 (by decide) ?_
      refine ok_ireturn dX1_hasPart_31 rfl rfl ?_
      first | exact K | (simp only [c_1, c_5, ↓reduceIte] at K; exact K)
    · refine ok_iload_n dX1_hasPart_8 rfl rfl ?_
      refine ok_aload_n dX1_hasPart_9 rfl rfl ?_
      refine ok_getI dX1_hasPart_10 f_X1_15 (by first | exact is_lit hv (by decide) rfl | exact is_sq hv hq | exact is_row hv hq | exact is_pn hv hq (by assumption) | assumption) rfl ?_
      refine ok_icmp_gt (tgt := 30) dX1_hasPart_13 (by decide) (fun c_13 => ?_) (fun c_13 => ?_)
      · refine ok_iconst (v := 0) dX1_hasPart_30 (by decide) ?_
        refine ok_ireturn dX1_hasPart_31 rfl rfl ?_
        first | exact K | (simp only [c_1, c_5, c_13, ↓reduceIte] at K; exact K)
      · refine ok_iload_n dX1_hasPart_16 rfl rfl ?_
        refine ok_aload_n dX1_hasPart_17 rfl rfl ?_
        refine ok_getI dX1_hasPart_18 f_X1_15 (by first | exact is_lit hv (by decide) rfl | exact is_sq hv hq | exact is_row hv hq | exact is_pn hv hq (by assumption) | assumption) rfl ?_
        refine ok_iload_n dX1_hasPart_21 rfl rfl ?_
        refine ok_isub dX1_hasPart_22 ?_
        refine ok_icmp_gt (tgt := 30) dX1_hasPart_23 (by decide) (fun c_23 => ?_) (fun c_23 => ?_)
        · refine ok_iconst (v := 0) dX1_hasPart_30 (by decide) ?_
          refine ok_ireturn dX1_hasPart_31 rfl rfl ?_
          first | exact K | (simp only [c_1, c_5, c_13, c_23, ↓reduceIte] at K; exact K)
        · refine ok_iconst (v := 1) dX1_hasPart_26 (by decide) ?_
          refine ok_goto (tgt := 31) dX1_hasPart_27 (by decide) ?_
          refine ok_ireturn dX1_hasPart_31 rfl rfl ?_
          first | exact K | (simp only [c_1, c_5, c_13, c_23, ↓reduceIte] at K; exact K)
theorem sp_X1_cut {g : GG} {h : Hp} {Post : Option Value → Hp → Prop} (hv : Inv h) {s : Nat} (hs : s < 4) (hb : Wb (hI h (41 + 2 * s) 0)) (v : Int64) (K : Post (some (.long (w_nar (hI h (41 + 2 * s) 0) v))) h) : Sp g mX1_cut [.ref (41 + 2 * s), .long v] h Post := by
  show Go g mX1_cut 0 [_, _, _] [] _ _ _
  refine ok_aload_n dX1_cut_0 rfl rfl ?_
  refine ok_getI dX1_cut_1 f_X1_9 (is_sh hv hs) rfl ?_
  rcases hb with eb | eb | eb | eb
  · rw [eb] at K ⊢
    refine ok_lookup (tgt := 42) (off := 38) dX1_cut_4 (by decide) (by decide) (by decide) ?_
    refine ok_lload_n dX1_cut_42 rfl rfl ?_
    refine ok_lreturn dX1_cut_43 rfl ?_
    first | exact K | (simp only [↓reduceIte] at K; exact K)
  · rw [eb] at K ⊢
    refine ok_lookup (tgt := 32) (off := 28) dX1_cut_4 (by decide) (by decide) (by decide) ?_
    refine ok_lload_n dX1_cut_32 rfl rfl ?_
    refine ok_l2i dX1_cut_33 ?_
    refine ok_i2b dX1_cut_34 ?_
    refine ok_i2l dX1_cut_35 ?_
    refine ok_lreturn dX1_cut_36 rfl ?_
    first | exact K | (simp only [↓reduceIte] at K; exact K)
  · rw [eb] at K ⊢
    refine ok_lookup (tgt := 37) (off := 33) dX1_cut_4 (by decide) (by decide) (by decide) ?_
    refine ok_lload_n dX1_cut_37 rfl rfl ?_
    refine ok_l2i dX1_cut_38 ?_
    refine ok_i2s dX1_cut_39 ?_
    refine ok_i2l dX1_cut_40 ?_
    refine ok_lreturn dX1_cut_41 rfl ?_
    first | exact K | (simp only [↓reduceIte] at K; exact K)
  · rw [eb] at K ⊢
    refine ok_lookup (tgt := 42) (off := 38) dX1_cut_4 (by decide) (by decide) (by decide) ?_
    refine ok_lload_n dX1_cut_42 rfl rfl ?_
    refine ok_lreturn dX1_cut_43 rfl ?_
    first | exact K | (simp only [↓reduceIte] at K; exact K)
theorem sp_X1_put {g : GG} {h : Hp} {Post : Option Value → Hp → Prop} (hv : Inv h) {s : Nat} (hs : s < 4) (hb : Wb (hI h (41 + 2 * s) 0)) {i : Nat} (hi : i < 40) (v : Int64) (K : Post none (uL h (42 + 2 * s) i (w_nar (hI h (41 + 2 * s) 0) v))) : Sp g mX1_put [.ref (41 + 2 * s), .int (nI i), .long v] h Post := by
  show Go g mX1_put 0 [_, _, _, _] [] _ _ _
  refine ok_aload_n dX1_put_0 rfl rfl ?_
  refine ok_getR dX1_put_1 f_X1_18 (is_sh hv hs) rfl (rf_sn hv hs) ?_
  refine ok_iload_n dX1_put_4 rfl rfl ?_
  refine ok_aload_n dX1_put_5 rfl rfl ?_
  refine ok_lload_n dX1_put_6 rfl rfl ?_
  refine ok_callV (M' := mX1_cut) (b' := (0, 0)) (As := [_]) (cx := 1) dX1_put_7 iX1_cut w_709 (by decide) rfl (is_sh hv hs) rfl (Nat.le_of_ble_eq_true rfl) ⟨Nat.le_of_ble_eq_true rfl, Nat.le_of_ble_eq_true rfl⟩ (Nat.le_of_ble_eq_true rfl) rfl rfl ?_
  refine sp_X1_cut hv hs hb v ?_
  refine ok_lastore dX1_put_10 (is_sn hv hs) (by first | (unfold vp_in; decide) | exact vp_in_nI (by assumption) (by decide) | exact vp_in_nI (by omega) (by decide) | assumption) ?_
  rw [nI_clamp (by omega)]
  refine ok_return dX1_put_11 rfl ?_
  first | exact K | (simp only [↓reduceIte] at K; exact K)
theorem lp_X1_begin_12 {g : GG} {h0 : Hp} {Post : Option Value → Hp → Prop} (hv0 : Inv h0) {s : Nat} (hs : s < 4) (y1 y2 : Int32) (K : Post none (zL h0 (42 + 2 * s) 40)) : ∀ (k i : Nat), i + k = 40 → Go g mX1_begin 12 [some (.ref (41 + 2 * s)), some (.int y1), some (.int y2), some (.int (nI i))] [] (zL h0 (42 + 2 * s) i) (0, 0) Post := by
  intro k
  induction k with
  | zero =>
    intro i  hik 
    obtain rfl : i = 40 := by omega
    refine ok_iload_n dX1_begin_12 rfl rfl ?_
    refine ok_bipush (v := 40) dX1_begin_13 (by decide) ?_
    refine ok_icmp_ge (tgt := 31) dX1_begin_15 (by decide) (fun _ => ?_) (fun c9 => absurd (by decide) c9)
    refine ok_return dX1_begin_31 rfl ?_
    first | exact K | (simp only [↓reduceIte] at K; exact K)
  | succ k ih =>
    intro i  hik 
    have hi : i < 40 := by omega
    refine ok_iload_n dX1_begin_12 rfl rfl ?_
    refine ok_bipush (v := 40) dX1_begin_13 (by decide) ?_
    refine ok_icmp_ge (tgt := 31) dX1_begin_15 (by decide) (fun c9 => absurd c9 (nI_ge (show i < 40 by omega) (by decide))) (fun _ => ?_)
    refine ok_aload_n dX1_begin_18 rfl rfl ?_
    refine ok_getR dX1_begin_19 f_X1_18 (is_sh (h := zL h0 (42 + 2 * s) i) hv0 hs) rfl (rf_sn (h := zL h0 (42 + 2 * s) i) hv0 hs) ?_
    refine ok_iload_n dX1_begin_22 rfl rfl ?_
    refine ok_lconst (v := 0) dX1_begin_23 (by decide) ?_
    refine ok_lastore dX1_begin_24 (is_sn (h := zL h0 (42 + 2 * s) i) hv0 hs) (vp_in_nI hi (by decide)) ?_
    refine ok_iinc (v := _ + 1) (lo' := [_, _, _, _]) dX1_begin_25 rfl rfl (Nat.le_of_ble_eq_true rfl) rfl rfl ?_
    refine ok_goto (tgt := 12) dX1_begin_28 (by decide) ?_
    rw [nI_1, nI_clamp (by omega), zL_s]
    exact ih (i + 1) (by omega)
theorem sp_X1_begin {g : GG} {h : Hp} {Post : Option Value → Hp → Prop} (hv : Inv h) {s : Nat} (hs : s < 4) (b z : Int32) (K : Post none (zL (uI (uI h (41 + 2 * s) 0 b) (41 + 2 * s) 1 z) (42 + 2 * s) 40)) : Sp g mX1_begin [.ref (41 + 2 * s), .int b, .int z] h Post := by
  show Go g mX1_begin 0 [_, _, _, _] [] _ _ _
  refine ok_aload_n dX1_begin_0 rfl rfl ?_
  refine ok_iload_n dX1_begin_1 rfl rfl ?_
  refine ok_putI dX1_begin_2 f_X1_9 (is_sh hv hs) rfl rfl rfl rfl ?_
  refine ok_aload_n dX1_begin_5 rfl rfl ?_
  refine ok_iload_n dX1_begin_6 rfl rfl ?_
  refine ok_putI dX1_begin_7 f_X1_15 (is_sh (h := uI h (41 + 2 * s) 0 b) hv hs) rfl rfl rfl rfl ?_
  refine ok_iconst (v := 0) dX1_begin_10 (by decide) ?_
  refine ok_istore_n (lo' := [_, _, _, _]) dX1_begin_11 rfl (Nat.le_of_ble_eq_true rfl) rfl rfl ?_
  have L := lp_X1_begin_12 (g := g) (h0 := uI (uI h (41 + 2 * s) 0 b) (41 + 2 * s) 1 z) hv hs b z K 40 0 (by omega)
  rw [zL_0] at L
  exact L
theorem wb_no {b : Int32} (hb : ¬ Wb b) : (if b = 0 then (1 : Int32) else if b = 8 then 1 else if b = 16 then 1 else if b = 64 then 1 else 0) = 0 := by
  rw [if_neg (fun e => hb (Or.inl e)), if_neg (fun e => hb (Or.inr (Or.inl e))), if_neg (fun e => hb (Or.inr (Or.inr (Or.inl e)))), if_neg (fun e => hb (Or.inr (Or.inr (Or.inr e))))]
theorem wb_yes {b : Int32} (hb : Wb b) : (if b = 0 then (1 : Int32) else if b = 8 then 1 else if b = 16 then 1 else if b = 64 then 1 else 0) = 1 := by
  rcases hb with rfl | rfl | rfl | rfl <;> rfl
theorem sp_X4_sheet_b {g : GG} {h : Hp} {Post : Option Value → Hp → Prop} (hv : Inv h) (v b n : Int32) (hb : v < 0 ∨ 4 ≤ v) (K : Post (some (.int (-1000000001))) (hfi h 0)) : Sp g mX4_sheet [.ref 0, .int v, .int b, .int n] h Post := by
  show Go g mX4_sheet 0 [_, _, _, _] [] _ _ _
  refine ok_iload_n dX4_sheet_0 rfl rfl ?_
  refine ok_callS (M' := mX4_isSheet) (b' := (0, 0)) (As := [_]) dX4_sheet_1 iX4_isSheet w_686 rfl (Nat.le_of_ble_eq_true rfl) ⟨Nat.le_of_ble_eq_true rfl, Nat.le_of_ble_eq_true rfl⟩ (Nat.le_of_ble_eq_true rfl) rfl rfl ?_
  refine sp_X4_isSheet _ ?_
  rw [ss_bad hb]
  refine ok_if_eq (tgt := 14) dX4_sheet_4 (by decide) (fun _ => ?_) (fun c9 => absurd rfl c9)
  refine ok_aload_n dX4_sheet_14 rfl rfl ?_
  refine ok_ldc dX4_sheet_15 w_253 ?_
  refine ok_callV (M' := mX4_finding) (b' := (0, 0)) (As := [_]) (cx := 4) dX4_sheet_17 iX4_finding w_254 (by decide) rfl (by first | exact is_lit hv (by decide) rfl | exact is_sq hv hq | exact is_row hv hq | exact is_pn hv hq (by assumption) | assumption) rfl (Nat.le_of_ble_eq_true rfl) ⟨Nat.le_of_ble_eq_true rfl, Nat.le_of_ble_eq_true rfl⟩ (Nat.le_of_ble_eq_true rfl) rfl rfl ?_
  refine sp_X4_finding hv (k := 0) (by decide) (by decide) ?_
  refine ok_ireturn dX4_sheet_20 rfl rfl ?_
  first | exact K | (simp only [↓reduceIte] at K; exact K)
theorem sp_X4_sheet_w {g : GG} {h : Hp} {Post : Option Value → Hp → Prop} (hv : Inv h) {s : Nat} (hs : s < 4) {b : Int32} (n : Int32) (hb : ¬ Wb b) (K : Post (some (.int (-1000000001))) (hfi h 0)) : Sp g mX4_sheet [.ref 0, .int (nI s), .int b, .int n] h Post := by
  show Go g mX4_sheet 0 [_, _, _, _] [] _ _ _
  refine ok_iload_n dX4_sheet_0 rfl rfl ?_
  refine ok_callS (M' := mX4_isSheet) (b' := (0, 0)) (As := [_]) dX4_sheet_1 iX4_isSheet w_686 rfl (Nat.le_of_ble_eq_true rfl) ⟨Nat.le_of_ble_eq_true rfl, Nat.le_of_ble_eq_true rfl⟩ (Nat.le_of_ble_eq_true rfl) rfl rfl ?_
  refine sp_X4_isSheet _ ?_
  rw [ss_ok hs]
  refine ok_if_eq (tgt := 14) dX4_sheet_4 (by decide) (fun c9 => absurd c9 (by decide)) (fun _ => ?_)
  refine ok_iload_n dX4_sheet_7 rfl rfl ?_
  refine ok_callS (M' := mX4_isWidth) (b' := (0, 0)) (As := [_]) dX4_sheet_8 iX4_isWidth w_689 rfl (Nat.le_of_ble_eq_true rfl) ⟨Nat.le_of_ble_eq_true rfl, Nat.le_of_ble_eq_true rfl⟩ (Nat.le_of_ble_eq_true rfl) rfl rfl ?_
  refine sp_X4_isWidth _ ?_
  rw [wb_no hb]
  refine ok_if_ne (tgt := 21) dX4_sheet_11 (by decide) (fun c9 => absurd c9 (fun c => c rfl)) (fun _ => ?_)
  refine ok_aload_n dX4_sheet_14 rfl rfl ?_
  refine ok_ldc dX4_sheet_15 w_253 ?_
  refine ok_callV (M' := mX4_finding) (b' := (0, 0)) (As := [_]) (cx := 4) dX4_sheet_17 iX4_finding w_254 (by decide) rfl (by first | exact is_lit hv (by decide) rfl | exact is_sq hv hq | exact is_row hv hq | exact is_pn hv hq (by assumption) | assumption) rfl (Nat.le_of_ble_eq_true rfl) ⟨Nat.le_of_ble_eq_true rfl, Nat.le_of_ble_eq_true rfl⟩ (Nat.le_of_ble_eq_true rfl) rfl rfl ?_
  refine sp_X4_finding hv (k := 0) (by decide) (by decide) ?_
  refine ok_ireturn dX4_sheet_20 rfl rfl ?_
  first | exact K | (simp only [↓reduceIte] at K; exact K)
theorem sp_X4_sheet_n {g : GG} {h : Hp} {Post : Option Value → Hp → Prop} (hv : Inv h) {s : Nat} (hs : s < 4) {b n : Int32} (hb : Wb b) (hn : n < 0) (K : Post (some (.int (-1000000007))) (hfi h 6)) : Sp g mX4_sheet [.ref 0, .int (nI s), .int b, .int n] h Post := by
  show Go g mX4_sheet 0 [_, _, _, _] [] _ _ _
  refine ok_iload_n dX4_sheet_0 rfl rfl ?_
  refine ok_callS (M' := mX4_isSheet) (b' := (0, 0)) (As := [_]) dX4_sheet_1 iX4_isSheet w_686 rfl (Nat.le_of_ble_eq_true rfl) ⟨Nat.le_of_ble_eq_true rfl, Nat.le_of_ble_eq_true rfl⟩ (Nat.le_of_ble_eq_true rfl) rfl rfl ?_
  refine sp_X4_isSheet _ ?_
  rw [ss_ok hs]
  refine ok_if_eq (tgt := 14) dX4_sheet_4 (by decide) (fun c9 => absurd c9 (by decide)) (fun _ => ?_)
  refine ok_iload_n dX4_sheet_7 rfl rfl ?_
  refine ok_callS (M' := mX4_isWidth) (b' := (0, 0)) (As := [_]) dX4_sheet_8 iX4_isWidth w_689 rfl (Nat.le_of_ble_eq_true rfl) ⟨Nat.le_of_ble_eq_true rfl, Nat.le_of_ble_eq_true rfl⟩ (Nat.le_of_ble_eq_true rfl) rfl rfl ?_
  refine sp_X4_isWidth _ ?_
  rw [wb_yes hb]
  refine ok_if_ne (tgt := 21) dX4_sheet_11 (by decide) (fun _ => ?_) (fun c9 => absurd c9 (by decide))
  refine ok_iload_n dX4_sheet_21 rfl rfl ?_
  refine ok_if_ge (tgt := 32) dX4_sheet_22 (by decide) (fun c9 => absurd c9 (fun c => absurd hn (i_nlt.mpr c))) (fun _ => ?_)
  refine ok_aload_n dX4_sheet_25 rfl rfl ?_
  refine ok_ldc dX4_sheet_26 w_520 ?_
  refine ok_callV (M' := mX4_finding) (b' := (0, 0)) (As := [_]) (cx := 4) dX4_sheet_28 iX4_finding w_254 (by decide) rfl (by first | exact is_lit hv (by decide) rfl | exact is_sq hv hq | exact is_row hv hq | exact is_pn hv hq (by assumption) | assumption) rfl (Nat.le_of_ble_eq_true rfl) ⟨Nat.le_of_ble_eq_true rfl, Nat.le_of_ble_eq_true rfl⟩ (Nat.le_of_ble_eq_true rfl) rfl rfl ?_
  refine sp_X4_finding hv (k := 6) (by decide) (by decide) ?_
  refine ok_ireturn dX4_sheet_31 rfl rfl ?_
  first | exact K | (simp only [↓reduceIte] at K; exact K)
theorem sp_X4_sheet_g {g : GG} {h : Hp} {Post : Option Value → Hp → Prop} (hv : Inv h) {s : Nat} (hs : s < 4) {b n : Int32} (hb : Wb b) (hn : ¬ n < 0) (h40 : 40 < n) (K : Post (some (.int (-1000000001))) (hfi h 0)) : Sp g mX4_sheet [.ref 0, .int (nI s), .int b, .int n] h Post := by
  show Go g mX4_sheet 0 [_, _, _, _] [] _ _ _
  refine ok_iload_n dX4_sheet_0 rfl rfl ?_
  refine ok_callS (M' := mX4_isSheet) (b' := (0, 0)) (As := [_]) dX4_sheet_1 iX4_isSheet w_686 rfl (Nat.le_of_ble_eq_true rfl) ⟨Nat.le_of_ble_eq_true rfl, Nat.le_of_ble_eq_true rfl⟩ (Nat.le_of_ble_eq_true rfl) rfl rfl ?_
  refine sp_X4_isSheet _ ?_
  rw [ss_ok hs]
  refine ok_if_eq (tgt := 14) dX4_sheet_4 (by decide) (fun c9 => absurd c9 (by decide)) (fun _ => ?_)
  refine ok_iload_n dX4_sheet_7 rfl rfl ?_
  refine ok_callS (M' := mX4_isWidth) (b' := (0, 0)) (As := [_]) dX4_sheet_8 iX4_isWidth w_689 rfl (Nat.le_of_ble_eq_true rfl) ⟨Nat.le_of_ble_eq_true rfl, Nat.le_of_ble_eq_true rfl⟩ (Nat.le_of_ble_eq_true rfl) rfl rfl ?_
  refine sp_X4_isWidth _ ?_
  rw [wb_yes hb]
  refine ok_if_ne (tgt := 21) dX4_sheet_11 (by decide) (fun _ => ?_) (fun c9 => absurd c9 (by decide))
  refine ok_iload_n dX4_sheet_21 rfl rfl ?_
  refine ok_if_ge (tgt := 32) dX4_sheet_22 (by decide) (fun _ => ?_) (fun c9 => absurd (i_nlt.mp hn) c9)
  refine ok_iload_n dX4_sheet_32 rfl rfl ?_
  refine ok_bipush (v := 40) dX4_sheet_33 (by decide) ?_
  refine ok_icmp_le (tgt := 45) dX4_sheet_35 (by decide) (fun c9 => absurd c9 (i_nle.mpr h40)) (fun _ => ?_)
  refine ok_aload_n dX4_sheet_38 rfl rfl ?_
  refine ok_ldc dX4_sheet_39 w_253 ?_
  refine ok_callV (M' := mX4_finding) (b' := (0, 0)) (As := [_]) (cx := 4) dX4_sheet_41 iX4_finding w_254 (by decide) rfl (by first | exact is_lit hv (by decide) rfl | exact is_sq hv hq | exact is_row hv hq | exact is_pn hv hq (by assumption) | assumption) rfl (Nat.le_of_ble_eq_true rfl) ⟨Nat.le_of_ble_eq_true rfl, Nat.le_of_ble_eq_true rfl⟩ (Nat.le_of_ble_eq_true rfl) rfl rfl ?_
  refine sp_X4_finding hv (k := 0) (by decide) (by decide) ?_
  refine ok_ireturn dX4_sheet_44 rfl rfl ?_
  first | exact K | (simp only [↓reduceIte] at K; exact K)
theorem sp_X4_sheet {g : GG} {h : Hp} {Post : Option Value → Hp → Prop} (hv : Inv h) {s : Nat} (hs : s < 4) {b n : Int32} (hb : Wb b) (hn : ¬ n < 0) (h40 : ¬ 40 < n) (K : Post (some (.int (if b = 0 then 0 else n))) (zL (uI (uI h (41 + 2 * s) 0 b) (41 + 2 * s) 1 (if b = 0 then 0 else n)) (42 + 2 * s) 40)) : Sp g mX4_sheet [.ref 0, .int (nI s), .int b, .int n] h Post := by
  show Go g mX4_sheet 0 [_, _, _, _] [] _ _ _
  refine ok_iload_n dX4_sheet_0 rfl rfl ?_
  refine ok_callS (M' := mX4_isSheet) (b' := (0, 0)) (As := [_]) dX4_sheet_1 iX4_isSheet w_686 rfl (Nat.le_of_ble_eq_true rfl) ⟨Nat.le_of_ble_eq_true rfl, Nat.le_of_ble_eq_true rfl⟩ (Nat.le_of_ble_eq_true rfl) rfl rfl ?_
  refine sp_X4_isSheet _ ?_
  rw [ss_ok hs]
  refine ok_if_eq (tgt := 14) dX4_sheet_4 (by decide) (fun c9 => absurd c9 (by decide)) (fun _ => ?_)
  refine ok_iload_n dX4_sheet_7 rfl rfl ?_
  refine ok_callS (M' := mX4_isWidth) (b' := (0, 0)) (As := [_]) dX4_sheet_8 iX4_isWidth w_689 rfl (Nat.le_of_ble_eq_true rfl) ⟨Nat.le_of_ble_eq_true rfl, Nat.le_of_ble_eq_true rfl⟩ (Nat.le_of_ble_eq_true rfl) rfl rfl ?_
  refine sp_X4_isWidth _ ?_
  rw [wb_yes hb]
  refine ok_if_ne (tgt := 21) dX4_sheet_11 (by decide) (fun _ => ?_) (fun c9 => absurd c9 (by decide))
  refine ok_iload_n dX4_sheet_21 rfl rfl ?_
  refine ok_if_ge (tgt := 32) dX4_sheet_22 (by decide) (fun _ => ?_) (fun c9 => absurd (i_nlt.mp hn) c9)
  refine ok_iload_n dX4_sheet_32 rfl rfl ?_
  refine ok_bipush (v := 40) dX4_sheet_33 (by decide) ?_
  refine ok_icmp_le (tgt := 45) dX4_sheet_35 (by decide) (fun _ => ?_) (fun c9 => absurd (i_nlt.mp h40) c9)
  refine ok_aload_n dX4_sheet_45 rfl rfl ?_
  refine ok_getR dX4_sheet_46 f_X4_39 (by first | exact is_lit hv (by decide) rfl | exact is_sq hv hq | exact is_row hv hq | exact is_pn hv hq (by assumption) | assumption) rfl (by first | exact rf hv rfl | exact rf_row hv hq | assumption) ?_
  refine ok_iload_n dX4_sheet_49 rfl rfl ?_
  refine ok_aaloadS dX4_sheet_50 (is_lit hv (by decide) rfl) (in_4 hs) (rf_sh hv hs) ?_
  refine ok_iload_n dX4_sheet_51 rfl rfl ?_
  refine ok_iload_n dX4_sheet_52 rfl rfl ?_
  refine ok_if_ne (tgt := 60) dX4_sheet_53 (by decide) (fun c_53 => ?_) (fun c_53 => ?_)
  · refine ok_iload_n dX4_sheet_60 rfl rfl ?_
    refine ok_callV (M' := mX1_begin) (b' := (0, 0)) (As := [_, _]) (cx := 1) dX4_sheet_61 iX1_begin w_692 (by decide) rfl (is_sh hv hs) rfl (Nat.le_of_ble_eq_true rfl) ⟨Nat.le_of_ble_eq_true rfl, Nat.le_of_ble_eq_true rfl⟩ (Nat.le_of_ble_eq_true rfl) rfl rfl ?_
    refine sp_X1_begin hv hs _ _ ?_
    refine ok_aload_n dX4_sheet_64 rfl rfl ?_
    refine ok_getR dX4_sheet_65 f_X4_39 (is_lit (a := 0) hv (by decide) rfl) rfl (rf (a := 0) (k := 6) hv rfl) ?_
    refine ok_iload_n dX4_sheet_68 rfl rfl ?_
    refine ok_aaloadS dX4_sheet_69 (is_lit hv (by decide) rfl) (in_4 hs) (rf_sh hv hs) ?_
    refine ok_getI dX4_sheet_70 f_X4_223 (is_sh hv hs) rfl ?_
    refine ok_ireturn dX4_sheet_73 rfl rfl ?_
    rw [at_zu]
    first | (rw [if_pos c_53] at K; exact K) | (rw [if_neg c_53] at K; exact K)
  · refine ok_iconst (v := 0) dX4_sheet_56 (by decide) ?_
    refine ok_goto (tgt := 61) dX4_sheet_57 (by decide) ?_
    refine ok_callV (M' := mX1_begin) (b' := (0, 0)) (As := [_, _]) (cx := 1) dX4_sheet_61 iX1_begin w_692 (by decide) rfl (is_sh hv hs) rfl (Nat.le_of_ble_eq_true rfl) ⟨Nat.le_of_ble_eq_true rfl, Nat.le_of_ble_eq_true rfl⟩ (Nat.le_of_ble_eq_true rfl) rfl rfl ?_
    refine sp_X1_begin hv hs _ _ ?_
    refine ok_aload_n dX4_sheet_64 rfl rfl ?_
    refine ok_getR dX4_sheet_65 f_X4_39 (is_lit (a := 0) hv (by decide) rfl) rfl (rf (a := 0) (k := 6) hv rfl) ?_
    refine ok_iload_n dX4_sheet_68 rfl rfl ?_
    refine ok_aaloadS dX4_sheet_69 (is_lit hv (by decide) rfl) (in_4 hs) (rf_sh hv hs) ?_
    refine ok_getI dX4_sheet_70 f_X4_223 (is_sh hv hs) rfl ?_
    refine ok_ireturn dX4_sheet_73 rfl rfl ?_
    rw [at_zu]
    first | (rw [if_pos c_53] at K; exact K) | (rw [if_neg c_53] at K; exact K)
theorem sp_X4_write_b {g : GG} {h : Hp} {Post : Option Value → Hp → Prop} (hv : Inv h) (v i : Int32) (x : Int64) (hb : v < 0 ∨ 4 ≤ v) (K : Post (some (.long (Int32.toInt64 (-1000000001)))) (hfi h 0)) : Sp g mX4_write [.ref 0, .int v, .int i, .long x] h Post := by
  show Go g mX4_write 0 [_, _, _, _, _, _, _] [] _ _ _
  refine ok_iload_n dX4_write_0 rfl rfl ?_
  refine ok_callS (M' := mX4_isSheet) (b' := (0, 0)) (As := [_]) dX4_write_1 iX4_isSheet w_686 rfl (Nat.le_of_ble_eq_true rfl) ⟨Nat.le_of_ble_eq_true rfl, Nat.le_of_ble_eq_true rfl⟩ (Nat.le_of_ble_eq_true rfl) rfl rfl ?_
  refine sp_X4_isSheet _ ?_
  rw [ss_bad hb]
  refine ok_if_ne (tgt := 15) dX4_write_4 (by decide) (fun c9 => absurd c9 (fun c => c rfl)) (fun _ => ?_)
  refine ok_aload_n dX4_write_7 rfl rfl ?_
  refine ok_ldc dX4_write_8 w_253 ?_
  refine ok_callV (M' := mX4_finding) (b' := (0, 0)) (As := [_]) (cx := 4) dX4_write_10 iX4_finding w_254 (by decide) rfl (by first | exact is_lit hv (by decide) rfl | exact is_sq hv hq | exact is_row hv hq | exact is_pn hv hq (by assumption) | assumption) rfl (Nat.le_of_ble_eq_true rfl) ⟨Nat.le_of_ble_eq_true rfl, Nat.le_of_ble_eq_true rfl⟩ (Nat.le_of_ble_eq_true rfl) rfl rfl ?_
  refine sp_X4_finding hv (k := 0) (by decide) (by decide) ?_
  refine ok_i2l dX4_write_13 ?_
  refine ok_lreturn dX4_write_14 rfl ?_
  first | exact K | (simp only [↓reduceIte] at K; exact K)
theorem sp_X4_write_m {g : GG} {h : Hp} {Post : Option Value → Hp → Prop} (hv : Inv h) {s : Nat} (hs : s < 4) (hm : hI h (41 + 2 * s) 0 = 0) (i : Int32) (x : Int64) (K : Post (some (.long (Int32.toInt64 (-1000000006)))) (hfi h 5)) : Sp g mX4_write [.ref 0, .int (nI s), .int i, .long x] h Post := by
  show Go g mX4_write 0 [_, _, _, _, _, _, _] [] _ _ _
  refine ok_iload_n dX4_write_0 rfl rfl ?_
  refine ok_callS (M' := mX4_isSheet) (b' := (0, 0)) (As := [_]) dX4_write_1 iX4_isSheet w_686 rfl (Nat.le_of_ble_eq_true rfl) ⟨Nat.le_of_ble_eq_true rfl, Nat.le_of_ble_eq_true rfl⟩ (Nat.le_of_ble_eq_true rfl) rfl rfl ?_
  refine sp_X4_isSheet _ ?_
  rw [ss_ok hs]
  refine ok_if_ne (tgt := 15) dX4_write_4 (by decide) (fun _ => ?_) (fun c9 => absurd c9 (by decide))
  refine ok_aload_n dX4_write_15 rfl rfl ?_
  refine ok_getR dX4_write_16 f_X4_39 (by first | exact is_lit hv (by decide) rfl | exact is_sq hv hq | exact is_row hv hq | exact is_pn hv hq (by assumption) | assumption) rfl (by first | exact rf hv rfl | exact rf_row hv hq | assumption) ?_
  refine ok_iload_n dX4_write_19 rfl rfl ?_
  refine ok_aaloadS dX4_write_20 (is_lit hv (by decide) rfl) (in_4 hs) (rf_sh hv hs) ?_
  refine ok_callV (M' := mX1_isMissing) (b' := (0, 0)) (As := []) (cx := 1) dX4_write_21 iX1_isMissing w_700 (by decide) rfl (is_sh hv hs) rfl (Nat.le_of_ble_eq_true rfl) ⟨Nat.le_of_ble_eq_true rfl, Nat.le_of_ble_eq_true rfl⟩ (Nat.le_of_ble_eq_true rfl) rfl rfl ?_
  refine sp_X1_isMissing (is_sh hv hs) ?_
  rw [if_pos hm]
  refine ok_if_eq (tgt := 35) dX4_write_24 (by decide) (fun c9 => absurd c9 (by decide)) (fun _ => ?_)
  refine ok_aload_n dX4_write_27 rfl rfl ?_
  refine ok_ldc dX4_write_28 w_704 ?_
  refine ok_callV (M' := mX4_finding) (b' := (0, 0)) (As := [_]) (cx := 4) dX4_write_30 iX4_finding w_254 (by decide) rfl (by first | exact is_lit hv (by decide) rfl | exact is_sq hv hq | exact is_row hv hq | exact is_pn hv hq (by assumption) | assumption) rfl (Nat.le_of_ble_eq_true rfl) ⟨Nat.le_of_ble_eq_true rfl, Nat.le_of_ble_eq_true rfl⟩ (Nat.le_of_ble_eq_true rfl) rfl rfl ?_
  refine sp_X4_finding hv (k := 5) (by decide) (by decide) ?_
  refine ok_i2l dX4_write_33 ?_
  refine ok_lreturn dX4_write_34 rfl ?_
  first | exact K | (simp only [↓reduceIte] at K; exact K)
theorem sp_X4_write_w {g : GG} {h : Hp} {Post : Option Value → Hp → Prop} (hv : Inv h) {s : Nat} (hs : s < 4) (hm : ¬ hI h (41 + 2 * s) 0 = 0) {i : Int32} (hb : i < 0) (x : Int64) (K : Post (some (.long (Int32.toInt64 (-1000000001)))) (hfi h 0)) : Sp g mX4_write [.ref 0, .int (nI s), .int i, .long x] h Post := by
  show Go g mX4_write 0 [_, _, _, _, _, _, _] [] _ _ _
  refine ok_iload_n dX4_write_0 rfl rfl ?_
  refine ok_callS (M' := mX4_isSheet) (b' := (0, 0)) (As := [_]) dX4_write_1 iX4_isSheet w_686 rfl (Nat.le_of_ble_eq_true rfl) ⟨Nat.le_of_ble_eq_true rfl, Nat.le_of_ble_eq_true rfl⟩ (Nat.le_of_ble_eq_true rfl) rfl rfl ?_
  refine sp_X4_isSheet _ ?_
  rw [ss_ok hs]
  refine ok_if_ne (tgt := 15) dX4_write_4 (by decide) (fun _ => ?_) (fun c9 => absurd c9 (by decide))
  refine ok_aload_n dX4_write_15 rfl rfl ?_
  refine ok_getR dX4_write_16 f_X4_39 (by first | exact is_lit hv (by decide) rfl | exact is_sq hv hq | exact is_row hv hq | exact is_pn hv hq (by assumption) | assumption) rfl (by first | exact rf hv rfl | exact rf_row hv hq | assumption) ?_
  refine ok_iload_n dX4_write_19 rfl rfl ?_
  refine ok_aaloadS dX4_write_20 (is_lit hv (by decide) rfl) (in_4 hs) (rf_sh hv hs) ?_
  refine ok_callV (M' := mX1_isMissing) (b' := (0, 0)) (As := []) (cx := 1) dX4_write_21 iX1_isMissing w_700 (by decide) rfl (is_sh hv hs) rfl (Nat.le_of_ble_eq_true rfl) ⟨Nat.le_of_ble_eq_true rfl, Nat.le_of_ble_eq_true rfl⟩ (Nat.le_of_ble_eq_true rfl) rfl rfl ?_
  refine sp_X1_isMissing (is_sh hv hs) ?_
  rw [if_neg hm]
  refine ok_if_eq (tgt := 35) dX4_write_24 (by decide) (fun _ => ?_) (fun c9 => absurd rfl c9)
  refine ok_iload_n dX4_write_35 rfl rfl ?_
  refine ok_if_lt (tgt := 52) dX4_write_36 (by decide) (fun _ => ?_) (fun c9 => absurd hb c9)
  refine ok_aload_n dX4_write_52 rfl rfl ?_
  refine ok_ldc dX4_write_53 w_253 ?_
  refine ok_callV (M' := mX4_finding) (b' := (0, 0)) (As := [_]) (cx := 4) dX4_write_55 iX4_finding w_254 (by decide) rfl (by first | exact is_lit hv (by decide) rfl | exact is_sq hv hq | exact is_row hv hq | exact is_pn hv hq (by assumption) | assumption) rfl (Nat.le_of_ble_eq_true rfl) ⟨Nat.le_of_ble_eq_true rfl, Nat.le_of_ble_eq_true rfl⟩ (Nat.le_of_ble_eq_true rfl) rfl rfl ?_
  refine sp_X4_finding hv (k := 0) (by decide) (by decide) ?_
  refine ok_i2l dX4_write_58 ?_
  refine ok_lreturn dX4_write_59 rfl ?_
  first | exact K | (simp only [↓reduceIte] at K; exact K)
theorem sp_X4_write_v {g : GG} {h : Hp} {Post : Option Value → Hp → Prop} (hv : Inv h) {s : Nat} (hs : s < 4) (hm : ¬ hI h (41 + 2 * s) 0 = 0) {i : Int32} (hb0 : ¬ i < 0) (hb : hI h (41 + 2 * s) 1 ≤ i) (x : Int64) (K : Post (some (.long (Int32.toInt64 (-1000000001)))) (hfi h 0)) : Sp g mX4_write [.ref 0, .int (nI s), .int i, .long x] h Post := by
  show Go g mX4_write 0 [_, _, _, _, _, _, _] [] _ _ _
  refine ok_iload_n dX4_write_0 rfl rfl ?_
  refine ok_callS (M' := mX4_isSheet) (b' := (0, 0)) (As := [_]) dX4_write_1 iX4_isSheet w_686 rfl (Nat.le_of_ble_eq_true rfl) ⟨Nat.le_of_ble_eq_true rfl, Nat.le_of_ble_eq_true rfl⟩ (Nat.le_of_ble_eq_true rfl) rfl rfl ?_
  refine sp_X4_isSheet _ ?_
  rw [ss_ok hs]
  refine ok_if_ne (tgt := 15) dX4_write_4 (by decide) (fun _ => ?_) (fun c9 => absurd c9 (by decide))
  refine ok_aload_n dX4_write_15 rfl rfl ?_
  refine ok_getR dX4_write_16 f_X4_39 (by first | exact is_lit hv (by decide) rfl | exact is_sq hv hq | exact is_row hv hq | exact is_pn hv hq (by assumption) | assumption) rfl (by first | exact rf hv rfl | exact rf_row hv hq | assumption) ?_
  refine ok_iload_n dX4_write_19 rfl rfl ?_
  refine ok_aaloadS dX4_write_20 (is_lit hv (by decide) rfl) (in_4 hs) (rf_sh hv hs) ?_
  refine ok_callV (M' := mX1_isMissing) (b' := (0, 0)) (As := []) (cx := 1) dX4_write_21 iX1_isMissing w_700 (by decide) rfl (is_sh hv hs) rfl (Nat.le_of_ble_eq_true rfl) ⟨Nat.le_of_ble_eq_true rfl, Nat.le_of_ble_eq_true rfl⟩ (Nat.le_of_ble_eq_true rfl) rfl rfl ?_
  refine sp_X1_isMissing (is_sh hv hs) ?_
  rw [if_neg hm]
  refine ok_if_eq (tgt := 35) dX4_write_24 (by decide) (fun _ => ?_) (fun c9 => absurd rfl c9)
  refine ok_iload_n dX4_write_35 rfl rfl ?_
  refine ok_if_lt (tgt := 52) dX4_write_36 (by decide) (fun c9 => absurd c9 hb0) (fun _ => ?_)
  refine ok_iload_n dX4_write_39 rfl rfl ?_
  refine ok_aload_n dX4_write_40 rfl rfl ?_
  refine ok_getR dX4_write_41 f_X4_39 (by first | exact is_lit hv (by decide) rfl | exact is_sq hv hq | exact is_row hv hq | exact is_pn hv hq (by assumption) | assumption) rfl (by first | exact rf hv rfl | exact rf_row hv hq | assumption) ?_
  refine ok_iload_n dX4_write_44 rfl rfl ?_
  refine ok_aaloadS dX4_write_45 (is_lit hv (by decide) rfl) (in_4 hs) (rf_sh hv hs) ?_
  refine ok_getI dX4_write_46 f_X4_223 (is_sh hv hs) rfl ?_
  refine ok_icmp_lt (tgt := 60) dX4_write_49 (by decide) (fun c9 => absurd c9 (i_nlt.mpr hb)) (fun _ => ?_)
  refine ok_aload_n dX4_write_52 rfl rfl ?_
  refine ok_ldc dX4_write_53 w_253 ?_
  refine ok_callV (M' := mX4_finding) (b' := (0, 0)) (As := [_]) (cx := 4) dX4_write_55 iX4_finding w_254 (by decide) rfl (by first | exact is_lit hv (by decide) rfl | exact is_sq hv hq | exact is_row hv hq | exact is_pn hv hq (by assumption) | assumption) rfl (Nat.le_of_ble_eq_true rfl) ⟨Nat.le_of_ble_eq_true rfl, Nat.le_of_ble_eq_true rfl⟩ (Nat.le_of_ble_eq_true rfl) rfl rfl ?_
  refine sp_X4_finding hv (k := 0) (by decide) (by decide) ?_
  refine ok_i2l dX4_write_58 ?_
  refine ok_lreturn dX4_write_59 rfl ?_
  first | exact K | (simp only [↓reduceIte] at K; exact K)
theorem sp_X4_write {g : GG} {h : Hp} {Post : Option Value → Hp → Prop} (hv : Inv h) {s : Nat} (hs : s < 4) (hm : ¬ hI h (41 + 2 * s) 0 = 0) (hb : Wb (hI h (41 + 2 * s) 0)) {i : Nat} (hi : i < 40) (hz : nI i < hI h (41 + 2 * s) 1) (x : Int64) (K : Post (some (.long (hL h (42 + 2 * s) i))) (uL h (42 + 2 * s) i (w_nar (hI h (41 + 2 * s) 0) x))) : Sp g mX4_write [.ref 0, .int (nI s), .int (nI i), .long x] h Post := by
  show Go g mX4_write 0 [_, _, _, _, _, _, _] [] _ _ _
  refine ok_iload_n dX4_write_0 rfl rfl ?_
  refine ok_callS (M' := mX4_isSheet) (b' := (0, 0)) (As := [_]) dX4_write_1 iX4_isSheet w_686 rfl (Nat.le_of_ble_eq_true rfl) ⟨Nat.le_of_ble_eq_true rfl, Nat.le_of_ble_eq_true rfl⟩ (Nat.le_of_ble_eq_true rfl) rfl rfl ?_
  refine sp_X4_isSheet _ ?_
  rw [ss_ok hs]
  refine ok_if_ne (tgt := 15) dX4_write_4 (by decide) (fun _ => ?_) (fun c9 => absurd c9 (by decide))
  refine ok_aload_n dX4_write_15 rfl rfl ?_
  refine ok_getR dX4_write_16 f_X4_39 (by first | exact is_lit hv (by decide) rfl | exact is_sq hv hq | exact is_row hv hq | exact is_pn hv hq (by assumption) | assumption) rfl (by first | exact rf hv rfl | exact rf_row hv hq | assumption) ?_
  refine ok_iload_n dX4_write_19 rfl rfl ?_
  refine ok_aaloadS dX4_write_20 (is_lit hv (by decide) rfl) (in_4 hs) (rf_sh hv hs) ?_
  refine ok_callV (M' := mX1_isMissing) (b' := (0, 0)) (As := []) (cx := 1) dX4_write_21 iX1_isMissing w_700 (by decide) rfl (is_sh hv hs) rfl (Nat.le_of_ble_eq_true rfl) ⟨Nat.le_of_ble_eq_true rfl, Nat.le_of_ble_eq_true rfl⟩ (Nat.le_of_ble_eq_true rfl) rfl rfl ?_
  refine sp_X1_isMissing (is_sh hv hs) ?_
  rw [if_neg hm]
  refine ok_if_eq (tgt := 35) dX4_write_24 (by decide) (fun _ => ?_) (fun c9 => absurd rfl c9)
  refine ok_iload_n dX4_write_35 rfl rfl ?_
  refine ok_if_lt (tgt := 52) dX4_write_36 (by decide) (fun c9 => absurd c9 (nI_pos (by omega))) (fun _ => ?_)
  refine ok_iload_n dX4_write_39 rfl rfl ?_
  refine ok_aload_n dX4_write_40 rfl rfl ?_
  refine ok_getR dX4_write_41 f_X4_39 (by first | exact is_lit hv (by decide) rfl | exact is_sq hv hq | exact is_row hv hq | exact is_pn hv hq (by assumption) | assumption) rfl (by first | exact rf hv rfl | exact rf_row hv hq | assumption) ?_
  refine ok_iload_n dX4_write_44 rfl rfl ?_
  refine ok_aaloadS dX4_write_45 (is_lit hv (by decide) rfl) (in_4 hs) (rf_sh hv hs) ?_
  refine ok_getI dX4_write_46 f_X4_223 (is_sh hv hs) rfl ?_
  refine ok_icmp_lt (tgt := 60) dX4_write_49 (by decide) (fun _ => ?_) (fun c9 => absurd hz c9)
  refine ok_aload_n dX4_write_60 rfl rfl ?_
  refine ok_getR dX4_write_61 f_X4_39 (by first | exact is_lit hv (by decide) rfl | exact is_sq hv hq | exact is_row hv hq | exact is_pn hv hq (by assumption) | assumption) rfl (by first | exact rf hv rfl | exact rf_row hv hq | assumption) ?_
  refine ok_iload_n dX4_write_64 rfl rfl ?_
  refine ok_aaloadS dX4_write_65 (is_lit hv (by decide) rfl) (in_4 hs) (rf_sh hv hs) ?_
  refine ok_getR dX4_write_66 f_X4_229 (is_sh hv hs) rfl (rf_sn hv hs) ?_
  refine ok_iload_n dX4_write_69 rfl rfl ?_
  refine ok_laload dX4_write_70 (is_sn hv hs) (vp_in_nI hi (by decide)) ?_
  rw [nI_clamp (by omega)]
  refine ok_lstore (lo' := [_, _, _, _, _, _, _]) dX4_write_71 (Nat.le_of_ble_eq_true rfl) rfl rfl ?_
  refine ok_aload_n dX4_write_73 rfl rfl ?_
  refine ok_getR dX4_write_74 f_X4_39 (by first | exact is_lit hv (by decide) rfl | exact is_sq hv hq | exact is_row hv hq | exact is_pn hv hq (by assumption) | assumption) rfl (by first | exact rf hv rfl | exact rf_row hv hq | assumption) ?_
  refine ok_iload_n dX4_write_77 rfl rfl ?_
  refine ok_aaloadS dX4_write_78 (is_lit hv (by decide) rfl) (in_4 hs) (rf_sh hv hs) ?_
  refine ok_iload_n dX4_write_79 rfl rfl ?_
  refine ok_lload_n dX4_write_80 rfl rfl ?_
  refine ok_callV (M' := mX1_put) (b' := (0, 0)) (As := [_, _]) (cx := 1) dX4_write_81 iX1_put w_705 (by decide) rfl (is_sh hv hs) rfl (Nat.le_of_ble_eq_true rfl) ⟨Nat.le_of_ble_eq_true rfl, Nat.le_of_ble_eq_true rfl⟩ (Nat.le_of_ble_eq_true rfl) rfl rfl ?_
  refine sp_X1_put hv hs hb hi _ ?_
  refine ok_lload dX4_write_84 rfl ?_
  refine ok_lreturn dX4_write_86 rfl ?_
  first | exact K | (simp only [↓reduceIte] at K; exact K)
