/-! ===== persons and squares ===== -/
/-- the seven of a person, all at once -/
def setP (h : Hp) (r : Nat) (v : Nat → Int32) : Hp := (fun a k => if a = r ∧ k < 7 then v k else h.1 a k, h.2)
theorem uI_at {h : Hp} {a k : Nat} {v : Int32} {b j : Nat} : (uI h a k v).1 b j = if b = a ∧ j = k then v else h.1 b j := rfl
theorem setP_of (h : Hp) (r : Nat) (v : Nat → Int32) : uI (uI (uI (uI (uI (uI (uI h r 0 (v 0)) r 1 (v 1)) r 2 (v 2)) r 3 (v 3)) r 4 (v 4)) r 5 (v 5)) r 6 (v 6) = setP h r v := by
  refine Prod.ext (funext fun a => funext fun k => ?_) rfl
  show _ = if a = r ∧ k < 7 then v k else h.1 a k
  by_cases ha : a = r
  · subst ha
    match k with
    | 0 => simp [uI] | 1 => simp [uI] | 2 => simp [uI] | 3 => simp [uI] | 4 => simp [uI] | 5 => simp [uI] | 6 => simp [uI]
    | k + 7 => rw [if_neg (fun q => absurd q.2 (by omega))]; simp [uI]
  · simp [uI, ha]
def arrV0 (kind : Int32) : Nat → Int32
  | 0 => kind | 1 => 5 | 2 => 3 | _ => 0
theorem sp_X0_arrive {g : GG} {h : Hp} {Post : Option Value → Hp → Prop} {r : Nat} (hr : Is h r 0 0) (k : Int32) (K : Post none (setP h r (arrV0 k))) : Sp g mX0_arrive [.ref r, .int k] h Post := by
  show Go g mX0_arrive 0 [_, _] [] _ _ _
  refine ok_aload_n dX0_arrive_0 rfl rfl ?_
  refine ok_iload_n dX0_arrive_1 rfl rfl ?_
  refine ok_putI dX0_arrive_2 f_X0_7 (by first | exact is_lit hv (by decide) rfl | exact is_sq hv hq | exact is_row hv hq | exact is_pn hv hq (by assumption) | assumption) rfl rfl rfl rfl ?_
  refine ok_aload_n dX0_arrive_5 rfl rfl ?_
  refine ok_iconst (v := 5) dX0_arrive_6 (by decide) ?_
  refine ok_putI dX0_arrive_7 f_X0_13 (by first | exact is_lit hv (by decide) rfl | exact is_sq hv hq | exact is_row hv hq | exact is_pn hv hq (by assumption) | assumption) rfl rfl rfl rfl ?_
  refine ok_aload_n dX0_arrive_10 rfl rfl ?_
  refine ok_iconst (v := 3) dX0_arrive_11 (by decide) ?_
  refine ok_putI dX0_arrive_12 f_X0_16 (by first | exact is_lit hv (by decide) rfl | exact is_sq hv hq | exact is_row hv hq | exact is_pn hv hq (by assumption) | assumption) rfl rfl rfl rfl ?_
  refine ok_aload_n dX0_arrive_15 rfl rfl ?_
  refine ok_iconst (v := 0) dX0_arrive_16 (by decide) ?_
  refine ok_putI dX0_arrive_17 f_X0_19 (by first | exact is_lit hv (by decide) rfl | exact is_sq hv hq | exact is_row hv hq | exact is_pn hv hq (by assumption) | assumption) rfl rfl rfl rfl ?_
  refine ok_aload_n dX0_arrive_20 rfl rfl ?_
  refine ok_iconst (v := 0) dX0_arrive_21 (by decide) ?_
  refine ok_putI dX0_arrive_22 f_X0_22 (by first | exact is_lit hv (by decide) rfl | exact is_sq hv hq | exact is_row hv hq | exact is_pn hv hq (by assumption) | assumption) rfl rfl rfl rfl ?_
  refine ok_aload_n dX0_arrive_25 rfl rfl ?_
  refine ok_iconst (v := 0) dX0_arrive_26 (by decide) ?_
  refine ok_putI dX0_arrive_27 f_X0_25 (by first | exact is_lit hv (by decide) rfl | exact is_sq hv hq | exact is_row hv hq | exact is_pn hv hq (by assumption) | assumption) rfl rfl rfl rfl ?_
  refine ok_aload_n dX0_arrive_30 rfl rfl ?_
  refine ok_iconst (v := 0) dX0_arrive_31 (by decide) ?_
  refine ok_putI dX0_arrive_32 f_X0_28 (by first | exact is_lit hv (by decide) rfl | exact is_sq hv hq | exact is_row hv hq | exact is_pn hv hq (by assumption) | assumption) rfl rfl rfl rfl ?_
  refine ok_return dX0_arrive_35 rfl ?_
  rw [← setP_of] at K
  exact K
theorem sp_X0_resemble {g : GG} {h : Hp} {Post : Option Value → Hp → Prop} {r o : Nat} (hr : Is h r 0 0) (ho : Is h o 0 0) (hne : o ≠ r) (K : Post none (setP h r (hI h o))) : Sp g mX0_resemble [.ref r, .ref o] h Post := by
  show Go g mX0_resemble 0 [_, _] [] _ _ _
  refine ok_aload_n dX0_resemble_0 rfl rfl ?_
  refine ok_aload_n dX0_resemble_1 rfl rfl ?_
  refine ok_getI dX0_resemble_2 f_X0_7 (by first | exact is_lit hv (by decide) rfl | exact is_sq hv hq | exact is_row hv hq | exact is_pn hv hq (by assumption) | assumption) rfl ?_
  refine ok_putI dX0_resemble_5 f_X0_7 (by first | exact is_lit hv (by decide) rfl | exact is_sq hv hq | exact is_row hv hq | exact is_pn hv hq (by assumption) | assumption) rfl rfl rfl rfl ?_
  refine ok_aload_n dX0_resemble_8 rfl rfl ?_
  refine ok_aload_n dX0_resemble_9 rfl rfl ?_
  refine ok_getI dX0_resemble_10 f_X0_13 (by first | exact is_lit hv (by decide) rfl | exact is_sq hv hq | exact is_row hv hq | exact is_pn hv hq (by assumption) | assumption) rfl ?_
  refine ok_putI dX0_resemble_13 f_X0_13 (by first | exact is_lit hv (by decide) rfl | exact is_sq hv hq | exact is_row hv hq | exact is_pn hv hq (by assumption) | assumption) rfl rfl rfl rfl ?_
  refine ok_aload_n dX0_resemble_16 rfl rfl ?_
  refine ok_aload_n dX0_resemble_17 rfl rfl ?_
  refine ok_getI dX0_resemble_18 f_X0_16 (by first | exact is_lit hv (by decide) rfl | exact is_sq hv hq | exact is_row hv hq | exact is_pn hv hq (by assumption) | assumption) rfl ?_
  refine ok_putI dX0_resemble_21 f_X0_16 (by first | exact is_lit hv (by decide) rfl | exact is_sq hv hq | exact is_row hv hq | exact is_pn hv hq (by assumption) | assumption) rfl rfl rfl rfl ?_
  refine ok_aload_n dX0_resemble_24 rfl rfl ?_
  refine ok_aload_n dX0_resemble_25 rfl rfl ?_
  refine ok_getI dX0_resemble_26 f_X0_19 (by first | exact is_lit hv (by decide) rfl | exact is_sq hv hq | exact is_row hv hq | exact is_pn hv hq (by assumption) | assumption) rfl ?_
  refine ok_putI dX0_resemble_29 f_X0_19 (by first | exact is_lit hv (by decide) rfl | exact is_sq hv hq | exact is_row hv hq | exact is_pn hv hq (by assumption) | assumption) rfl rfl rfl rfl ?_
  refine ok_aload_n dX0_resemble_32 rfl rfl ?_
  refine ok_aload_n dX0_resemble_33 rfl rfl ?_
  refine ok_getI dX0_resemble_34 f_X0_22 (by first | exact is_lit hv (by decide) rfl | exact is_sq hv hq | exact is_row hv hq | exact is_pn hv hq (by assumption) | assumption) rfl ?_
  refine ok_putI dX0_resemble_37 f_X0_22 (by first | exact is_lit hv (by decide) rfl | exact is_sq hv hq | exact is_row hv hq | exact is_pn hv hq (by assumption) | assumption) rfl rfl rfl rfl ?_
  refine ok_aload_n dX0_resemble_40 rfl rfl ?_
  refine ok_aload_n dX0_resemble_41 rfl rfl ?_
  refine ok_getI dX0_resemble_42 f_X0_25 (by first | exact is_lit hv (by decide) rfl | exact is_sq hv hq | exact is_row hv hq | exact is_pn hv hq (by assumption) | assumption) rfl ?_
  refine ok_putI dX0_resemble_45 f_X0_25 (by first | exact is_lit hv (by decide) rfl | exact is_sq hv hq | exact is_row hv hq | exact is_pn hv hq (by assumption) | assumption) rfl rfl rfl rfl ?_
  refine ok_aload_n dX0_resemble_48 rfl rfl ?_
  refine ok_aload_n dX0_resemble_49 rfl rfl ?_
  refine ok_getI dX0_resemble_50 f_X0_28 (by first | exact is_lit hv (by decide) rfl | exact is_sq hv hq | exact is_row hv hq | exact is_pn hv hq (by assumption) | assumption) rfl ?_
  refine ok_putI dX0_resemble_53 f_X0_28 (by first | exact is_lit hv (by decide) rfl | exact is_sq hv hq | exact is_row hv hq | exact is_pn hv hq (by assumption) | assumption) rfl rfl rfl rfl ?_
  refine ok_return dX0_resemble_56 rfl ?_
  simp only [uI_at, hI, hne, false_and, if_false]
  rw [← setP_of] at K
  exact K
theorem sp_X2_shortAt {g : GG} {h : Hp} {Post : Option Value → Hp → Prop} (hv : Inv h) {q : Nat} (hq : Sqr q) {j : Nat} (hj : j < 10) {r : Nat → Int32} {c : Int32} (R : WR h q j r c) (pl : Int32) (K : Post (some (.int (w_short r j pl c))) h) : Sp g mX2_shortAt [.ref q, .int pl, .int (nI j)] h Post := by
  show Go g mX2_shortAt 0 [_, _, _] [] _ _ _
  refine ok_iconst (v := 0) dX2_shortAt_0 (by decide) ?_
  refine ok_iload_n dX2_shortAt_1 rfl rfl ?_
  refine ok_iconst (v := 1) dX2_shortAt_2 (by decide) ?_
  refine ok_iadd dX2_shortAt_3 ?_
  refine ok_aload_n dX2_shortAt_4 rfl rfl ?_
  refine ok_iload_n dX2_shortAt_5 rfl rfl ?_
  refine ok_callV (M' := mX2_thinks) (b' := (0, 0)) (As := [_]) (cx := 2) dX2_shortAt_6 iX2_thinks w_283 (by decide) rfl (by first | exact is_lit hv (by decide) rfl | exact is_sq hv hq | exact is_row hv hq | exact is_pn hv hq (by assumption) | assumption) rfl (Nat.le_of_ble_eq_true rfl) ⟨Nat.le_of_ble_eq_true rfl, Nat.le_of_ble_eq_true rfl⟩ (Nat.le_of_ble_eq_true rfl) rfl rfl ?_
  refine sp_X2_thinks hv hq hj ?_
  refine ok_isub dX2_shortAt_9 ?_
  refine ok_max dX2_shortAt_10 w_284 w_285 w_71 w_286 (Nat.le_of_ble_eq_true rfl) (Nat.le_of_ble_eq_true rfl) ?_
  refine ok_ireturn dX2_shortAt_13 rfl rfl ?_
  obtain ⟨e0, e2, e3, e6, ep⟩ := R
  rw [max_le, e0, e2, e3, ep 3 (by decide)]
  exact K
theorem WR.K {h : Hp} {q p : Nat} {r : Nat → Int32} {c : Int32} (R : WR h q p r c) : hI h (pn h q p) 0 = ro r p 0 ∧ hI h (pn h q p) 1 = ro r p 1 ∧ hI h (pn h q p) 2 = ro r p 2 := ⟨R.2.2.2.2 0 (by decide), R.2.2.2.2 1 (by decide), R.2.2.2.2 2 (by decide)⟩
theorem n01 : ¬ ((0 : Int32) = 1) := by decide
theorem n02 : ¬ ((0 : Int32) = 2) := by decide
theorem n03 : ¬ ((0 : Int32) = 3) := by decide
theorem n04 : ¬ ((0 : Int32) = 4) := by decide
theorem n05 : ¬ ((0 : Int32) = 5) := by decide
theorem n12 : ¬ ((1 : Int32) = 2) := by decide
theorem n13 : ¬ ((1 : Int32) = 3) := by decide
theorem n14 : ¬ ((1 : Int32) = 4) := by decide
theorem n15 : ¬ ((1 : Int32) = 5) := by decide
theorem n21 : ¬ ((2 : Int32) = 1) := by decide
theorem n23 : ¬ ((2 : Int32) = 3) := by decide
theorem n24 : ¬ ((2 : Int32) = 4) := by decide
theorem n25 : ¬ ((2 : Int32) = 5) := by decide
theorem n31 : ¬ ((3 : Int32) = 1) := by decide
theorem n32 : ¬ ((3 : Int32) = 2) := by decide
theorem n34 : ¬ ((3 : Int32) = 4) := by decide
theorem n35 : ¬ ((3 : Int32) = 5) := by decide
theorem n41 : ¬ ((4 : Int32) = 1) := by decide
theorem n42 : ¬ ((4 : Int32) = 2) := by decide
theorem n43 : ¬ ((4 : Int32) = 3) := by decide
theorem n45 : ¬ ((4 : Int32) = 5) := by decide
theorem n51 : ¬ ((5 : Int32) = 1) := by decide
theorem n52 : ¬ ((5 : Int32) = 2) := by decide
theorem n53 : ¬ ((5 : Int32) = 3) := by decide
theorem n54 : ¬ ((5 : Int32) = 4) := by decide
theorem lt1 (x : Int32) : x < 1 ↔ x ≤ 0 := by rw [i_lt, i_le]; show _ < (1 : Int) ↔ _ ≤ (0 : Int); omega
theorem sp_X2_wouldThrow {g : GG} {h : Hp} {Post : Option Value → Hp → Prop} (hv : Inv h) {q : Nat} (hq : Sqr q) {j : Nat} (hj : j < 10) {r : Nat → Int32} {c : Int32} (R : WR h q j r c) (hk : Kd (ro r j 0)) (K : Post (some (.int (w_would r j c))) h) : Sp g mX2_wouldThrow [.ref q, .int (nI j)] h Post := by
  show Go g mX2_wouldThrow 0 [_, _, _, _, _] [] _ _ _
  refine ok_aload_n dX2_wouldThrow_0 rfl rfl ?_
  refine ok_getR dX2_wouldThrow_1 f_X2_36 (by first | exact is_lit hv (by decide) rfl | exact is_sq hv hq | exact is_row hv hq | exact is_pn hv hq (by assumption) | assumption) rfl (by first | exact rf hv rfl | exact rf_row hv hq | assumption) ?_
  refine ok_iload_n dX2_wouldThrow_4 rfl rfl ?_
  refine ok_aaloadP dX2_wouldThrow_5 (by first | exact is_lit hv (by decide) rfl | exact is_sq hv hq | exact is_row hv hq | exact is_pn hv hq (by assumption) | assumption) (by first | decide | exact vp_in_nI (by assumption) (by decide) | exact vp_in_nI (by omega) (by decide) | assumption) (by first | exact rf_nI hv hq (by assumption) | assumption) ?_
  refine ok_astore_n (lo' := [_, _, _, _, _]) dX2_wouldThrow_6 rfl (Nat.le_of_ble_eq_true rfl) rfl rfl ?_
  refine ok_aload_n dX2_wouldThrow_7 rfl rfl ?_
  refine ok_iload_n dX2_wouldThrow_8 rfl rfl ?_
  refine ok_iload_n dX2_wouldThrow_9 rfl rfl ?_
  refine ok_callV (M' := mX2_shortAt) (b' := (0, 0)) (As := [_, _]) (cx := 2) dX2_wouldThrow_10 iX2_shortAt w_291 (by decide) rfl (by first | exact is_lit hv (by decide) rfl | exact is_sq hv hq | exact is_row hv hq | exact is_pn hv hq (by assumption) | assumption) rfl (Nat.le_of_ble_eq_true rfl) ⟨Nat.le_of_ble_eq_true rfl, Nat.le_of_ble_eq_true rfl⟩ (Nat.le_of_ble_eq_true rfl) rfl rfl ?_
  refine sp_X2_shortAt hv hq hj R _ ?_
  refine ok_istore_n (lo' := [_, _, _, _, _]) dX2_wouldThrow_13 rfl (Nat.le_of_ble_eq_true rfl) rfl rfl ?_
  refine ok_iconst (v := 0) dX2_wouldThrow_14 (by decide) ?_
  refine ok_istore (lo' := [_, _, _, _, _]) dX2_wouldThrow_15 (Nat.le_of_ble_eq_true rfl) rfl rfl ?_
  refine ok_aload_n dX2_wouldThrow_17 rfl rfl ?_
  refine ok_getI dX2_wouldThrow_18 f_X2_69 (by first | exact is_lit hv (by decide) rfl | exact is_sq hv hq | exact is_row hv hq | exact is_pn hv hq (by assumption) | assumption) rfl ?_
  rw [R.K.1]
  rcases hk with ek | ek | ek | ek | ek | ek
  · rw [ek]
    refine ok_tableIn (tgt := 60) (off := 39) dX2_wouldThrow_21 (by decide) (by decide) (by decide) (by decide) ?_
    refine ok_iload_n dX2_wouldThrow_60 rfl rfl ?_
    refine ok_iconst (v := 1) dX2_wouldThrow_61 (by decide) ?_
    refine ok_icmp_ne (tgt := 77) dX2_wouldThrow_62 (by decide) (fun c_62 => ?_) (fun c_62 => ?_)
    · refine ok_iconst (v := 0) dX2_wouldThrow_77 (by decide) ?_
      refine ok_istore (lo' := [_, _, _, _, _]) dX2_wouldThrow_78 (Nat.le_of_ble_eq_true rfl) rfl rfl ?_
      refine ok_goto (tgt := 140) dX2_wouldThrow_80 (by decide) ?_
      refine ok_iload dX2_wouldThrow_140 rfl ?_
      refine ok_aload_n dX2_wouldThrow_142 rfl rfl ?_
      refine ok_getI dX2_wouldThrow_143 f_X2_75 (by first | exact is_lit hv (by decide) rfl | exact is_sq hv hq | exact is_row hv hq | exact is_pn hv hq (by assumption) | assumption) rfl ?_
      refine ok_min dX2_wouldThrow_146 w_292 w_293 w_71 w_294 (Nat.le_of_ble_eq_true rfl) (Nat.le_of_ble_eq_true rfl) ?_
      refine ok_ireturn dX2_wouldThrow_149 rfl rfl ?_
      unfold w_would w_raw at K
      rw [min_cut, R.K.2.1]
      simp only [ek, c_62, n01, n02, n03, n04, n05, n12, n13, n14, n15, n21, n23, n24, n25, n31, n32, n34, n35, n41, n42, n43, n45, n51, n52, n53, n54, ↓reduceIte] at K
      first | exact K | (rw [R.2.2.2.1]; exact K)
    · refine ok_aload_n dX2_wouldThrow_65 rfl rfl ?_
      refine ok_getI dX2_wouldThrow_66 f_X2_72 (by first | exact is_lit hv (by decide) rfl | exact is_sq hv hq | exact is_row hv hq | exact is_pn hv hq (by assumption) | assumption) rfl ?_
      refine ok_iconst (v := 1) dX2_wouldThrow_69 (by decide) ?_
      refine ok_icmp_lt (tgt := 77) dX2_wouldThrow_70 (by decide) (fun c_70 => ?_) (fun c_70 => ?_)
      · refine ok_iconst (v := 0) dX2_wouldThrow_77 (by decide) ?_
        refine ok_istore (lo' := [_, _, _, _, _]) dX2_wouldThrow_78 (Nat.le_of_ble_eq_true rfl) rfl rfl ?_
        refine ok_goto (tgt := 140) dX2_wouldThrow_80 (by decide) ?_
        refine ok_iload dX2_wouldThrow_140 rfl ?_
        refine ok_aload_n dX2_wouldThrow_142 rfl rfl ?_
        refine ok_getI dX2_wouldThrow_143 f_X2_75 (by first | exact is_lit hv (by decide) rfl | exact is_sq hv hq | exact is_row hv hq | exact is_pn hv hq (by assumption) | assumption) rfl ?_
        refine ok_min dX2_wouldThrow_146 w_292 w_293 w_71 w_294 (Nat.le_of_ble_eq_true rfl) (Nat.le_of_ble_eq_true rfl) ?_
        refine ok_ireturn dX2_wouldThrow_149 rfl rfl ?_
        unfold w_would w_raw at K
        rw [min_cut, R.K.2.1]
        rw [R.K.2.2, lt1] at c_70
        simp only [ek, c_62, c_70, n01, n02, n03, n04, n05, n12, n13, n14, n15, n21, n23, n24, n25, n31, n32, n34, n35, n41, n42, n43, n45, n51, n52, n53, n54, ↓reduceIte] at K
        first | exact K | (rw [R.2.2.2.1]; exact K)
      · refine ok_iconst (v := 1) dX2_wouldThrow_73 (by decide) ?_
        refine ok_goto (tgt := 78) dX2_wouldThrow_74 (by decide) ?_
        refine ok_istore (lo' := [_, _, _, _, _]) dX2_wouldThrow_78 (Nat.le_of_ble_eq_true rfl) rfl rfl ?_
        refine ok_goto (tgt := 140) dX2_wouldThrow_80 (by decide) ?_
        refine ok_iload dX2_wouldThrow_140 rfl ?_
        refine ok_aload_n dX2_wouldThrow_142 rfl rfl ?_
        refine ok_getI dX2_wouldThrow_143 f_X2_75 (by first | exact is_lit hv (by decide) rfl | exact is_sq hv hq | exact is_row hv hq | exact is_pn hv hq (by assumption) | assumption) rfl ?_
        refine ok_min dX2_wouldThrow_146 w_292 w_293 w_71 w_294 (Nat.le_of_ble_eq_true rfl) (Nat.le_of_ble_eq_true rfl) ?_
        refine ok_ireturn dX2_wouldThrow_149 rfl rfl ?_
        unfold w_would w_raw at K
        rw [min_cut, R.K.2.1]
        rw [R.K.2.2, lt1] at c_70
        simp only [ek, c_62, c_70, n01, n02, n03, n04, n05, n12, n13, n14, n15, n21, n23, n24, n25, n31, n32, n34, n35, n41, n42, n43, n45, n51, n52, n53, n54, ↓reduceIte] at K
        first | exact K | (rw [R.2.2.2.1]; exact K)
  · rw [ek]
    refine ok_tableIn (tgt := 140) (off := 119) dX2_wouldThrow_21 (by decide) (by decide) (by decide) (by decide) ?_
    refine ok_iload dX2_wouldThrow_140 rfl ?_
    refine ok_aload_n dX2_wouldThrow_142 rfl rfl ?_
    refine ok_getI dX2_wouldThrow_143 f_X2_75 (by first | exact is_lit hv (by decide) rfl | exact is_sq hv hq | exact is_row hv hq | exact is_pn hv hq (by assumption) | assumption) rfl ?_
    refine ok_min dX2_wouldThrow_146 w_292 w_293 w_71 w_294 (Nat.le_of_ble_eq_true rfl) (Nat.le_of_ble_eq_true rfl) ?_
    refine ok_ireturn dX2_wouldThrow_149 rfl rfl ?_
    unfold w_would w_raw at K
    rw [min_cut, R.K.2.1]
    simp only [ek, n01, n02, n03, n04, n05, n12, n13, n14, n15, n21, n23, n24, n25, n31, n32, n34, n35, n41, n42, n43, n45, n51, n52, n53, n54, ↓reduceIte] at K
    first | exact K | (rw [R.2.2.2.1]; exact K)
  · rw [ek]
    refine ok_tableIn (tgt := 83) (off := 62) dX2_wouldThrow_21 (by decide) (by decide) (by decide) (by decide) ?_
    refine ok_iconst (v := 1) dX2_wouldThrow_83 (by decide) ?_
    refine ok_istore (lo' := [_, _, _, _, _]) dX2_wouldThrow_84 (Nat.le_of_ble_eq_true rfl) rfl rfl ?_
    refine ok_goto (tgt := 140) dX2_wouldThrow_86 (by decide) ?_
    refine ok_iload dX2_wouldThrow_140 rfl ?_
    refine ok_aload_n dX2_wouldThrow_142 rfl rfl ?_
    refine ok_getI dX2_wouldThrow_143 f_X2_75 (by first | exact is_lit hv (by decide) rfl | exact is_sq hv hq | exact is_row hv hq | exact is_pn hv hq (by assumption) | assumption) rfl ?_
    refine ok_min dX2_wouldThrow_146 w_292 w_293 w_71 w_294 (Nat.le_of_ble_eq_true rfl) (Nat.le_of_ble_eq_true rfl) ?_
    refine ok_ireturn dX2_wouldThrow_149 rfl rfl ?_
    unfold w_would w_raw at K
    rw [min_cut, R.K.2.1]
    simp only [ek, n01, n02, n03, n04, n05, n12, n13, n14, n15, n21, n23, n24, n25, n31, n32, n34, n35, n41, n42, n43, n45, n51, n52, n53, n54, ↓reduceIte] at K
    first | exact K | (rw [R.2.2.2.1]; exact K)
  · rw [ek]
    refine ok_tableIn (tgt := 89) (off := 68) dX2_wouldThrow_21 (by decide) (by decide) (by decide) (by decide) ?_
    refine ok_iload_n dX2_wouldThrow_89 rfl rfl ?_
    refine ok_aload_n dX2_wouldThrow_90 rfl rfl ?_
    refine ok_getI dX2_wouldThrow_91 f_X2_72 (by first | exact is_lit hv (by decide) rfl | exact is_sq hv hq | exact is_row hv hq | exact is_pn hv hq (by assumption) | assumption) rfl ?_
    refine ok_icmp_gt (tgt := 101) dX2_wouldThrow_94 (by decide) (fun c_94 => ?_) (fun c_94 => ?_)
    · refine ok_iconst (v := 0) dX2_wouldThrow_101 (by decide) ?_
      refine ok_istore (lo' := [_, _, _, _, _]) dX2_wouldThrow_102 (Nat.le_of_ble_eq_true rfl) rfl rfl ?_
      refine ok_goto (tgt := 140) dX2_wouldThrow_104 (by decide) ?_
      refine ok_iload dX2_wouldThrow_140 rfl ?_
      refine ok_aload_n dX2_wouldThrow_142 rfl rfl ?_
      refine ok_getI dX2_wouldThrow_143 f_X2_75 (by first | exact is_lit hv (by decide) rfl | exact is_sq hv hq | exact is_row hv hq | exact is_pn hv hq (by assumption) | assumption) rfl ?_
      refine ok_min dX2_wouldThrow_146 w_292 w_293 w_71 w_294 (Nat.le_of_ble_eq_true rfl) (Nat.le_of_ble_eq_true rfl) ?_
      refine ok_ireturn dX2_wouldThrow_149 rfl rfl ?_
      unfold w_would w_raw at K
      rw [min_cut, R.K.2.1]
      rw [R.K.2.2] at c_94
      simp only [ek, c_94, n01, n02, n03, n04, n05, n12, n13, n14, n15, n21, n23, n24, n25, n31, n32, n34, n35, n41, n42, n43, n45, n51, n52, n53, n54, ↓reduceIte] at K
      first | exact K | (rw [R.2.2.2.1]; exact K)
    · refine ok_iload_n dX2_wouldThrow_97 rfl rfl ?_
      refine ok_goto (tgt := 102) dX2_wouldThrow_98 (by decide) ?_
      refine ok_istore (lo' := [_, _, _, _, _]) dX2_wouldThrow_102 (Nat.le_of_ble_eq_true rfl) rfl rfl ?_
      refine ok_goto (tgt := 140) dX2_wouldThrow_104 (by decide) ?_
      refine ok_iload dX2_wouldThrow_140 rfl ?_
      refine ok_aload_n dX2_wouldThrow_142 rfl rfl ?_
      refine ok_getI dX2_wouldThrow_143 f_X2_75 (by first | exact is_lit hv (by decide) rfl | exact is_sq hv hq | exact is_row hv hq | exact is_pn hv hq (by assumption) | assumption) rfl ?_
      refine ok_min dX2_wouldThrow_146 w_292 w_293 w_71 w_294 (Nat.le_of_ble_eq_true rfl) (Nat.le_of_ble_eq_true rfl) ?_
      refine ok_ireturn dX2_wouldThrow_149 rfl rfl ?_
      unfold w_would w_raw at K
      rw [min_cut, R.K.2.1]
      rw [R.K.2.2] at c_94
      simp only [ek, c_94, n01, n02, n03, n04, n05, n12, n13, n14, n15, n21, n23, n24, n25, n31, n32, n34, n35, n41, n42, n43, n45, n51, n52, n53, n54, ↓reduceIte] at K
      first | exact K | (rw [R.2.2.2.1]; exact K)
  · rw [ek]
    refine ok_tableIn (tgt := 107) (off := 86) dX2_wouldThrow_21 (by decide) (by decide) (by decide) (by decide) ?_
    refine ok_aload_n dX2_wouldThrow_107 rfl rfl ?_
    refine ok_getI dX2_wouldThrow_108 f_X2_9 (by first | exact is_lit hv (by decide) rfl | exact is_sq hv hq | exact is_row hv hq | exact is_pn hv hq (by assumption) | assumption) rfl ?_
    refine ok_if_le (tgt := 118) dX2_wouldThrow_111 (by decide) (fun c_111 => ?_) (fun c_111 => ?_)
    · refine ok_iconst (v := 0) dX2_wouldThrow_118 (by decide) ?_
      refine ok_istore (lo' := [_, _, _, _, _]) dX2_wouldThrow_119 (Nat.le_of_ble_eq_true rfl) rfl rfl ?_
      refine ok_goto (tgt := 140) dX2_wouldThrow_121 (by decide) ?_
      refine ok_iload dX2_wouldThrow_140 rfl ?_
      refine ok_aload_n dX2_wouldThrow_142 rfl rfl ?_
      refine ok_getI dX2_wouldThrow_143 f_X2_75 (by first | exact is_lit hv (by decide) rfl | exact is_sq hv hq | exact is_row hv hq | exact is_pn hv hq (by assumption) | assumption) rfl ?_
      refine ok_min dX2_wouldThrow_146 w_292 w_293 w_71 w_294 (Nat.le_of_ble_eq_true rfl) (Nat.le_of_ble_eq_true rfl) ?_
      refine ok_ireturn dX2_wouldThrow_149 rfl rfl ?_
      unfold w_would w_raw at K
      rw [min_cut, R.K.2.1]
      rw [R.1] at c_111
      simp only [ek, c_111, n01, n02, n03, n04, n05, n12, n13, n14, n15, n21, n23, n24, n25, n31, n32, n34, n35, n41, n42, n43, n45, n51, n52, n53, n54, ↓reduceIte] at K
      first | exact K | (rw [R.2.2.2.1]; exact K)
    · refine ok_iconst (v := -1) dX2_wouldThrow_114 (by decide) ?_
      refine ok_goto (tgt := 119) dX2_wouldThrow_115 (by decide) ?_
      refine ok_istore (lo' := [_, _, _, _, _]) dX2_wouldThrow_119 (Nat.le_of_ble_eq_true rfl) rfl rfl ?_
      refine ok_goto (tgt := 140) dX2_wouldThrow_121 (by decide) ?_
      refine ok_iload dX2_wouldThrow_140 rfl ?_
      refine ok_aload_n dX2_wouldThrow_142 rfl rfl ?_
      refine ok_getI dX2_wouldThrow_143 f_X2_75 (by first | exact is_lit hv (by decide) rfl | exact is_sq hv hq | exact is_row hv hq | exact is_pn hv hq (by assumption) | assumption) rfl ?_
      refine ok_min dX2_wouldThrow_146 w_292 w_293 w_71 w_294 (Nat.le_of_ble_eq_true rfl) (Nat.le_of_ble_eq_true rfl) ?_
      refine ok_ireturn dX2_wouldThrow_149 rfl rfl ?_
      unfold w_would w_raw at K
      rw [min_cut, R.K.2.1]
      rw [R.1] at c_111
      simp only [ek, c_111, n01, n02, n03, n04, n05, n12, n13, n14, n15, n21, n23, n24, n25, n31, n32, n34, n35, n41, n42, n43, n45, n51, n52, n53, n54, ↓reduceIte] at K
      first | exact K | (rw [R.2.2.2.1]; exact K)
  · rw [ek]
    refine ok_tableIn (tgt := 124) (off := 103) dX2_wouldThrow_21 (by decide) (by decide) (by decide) (by decide) ?_
    refine ok_aload_n dX2_wouldThrow_124 rfl rfl ?_
    refine ok_aload_n dX2_wouldThrow_125 rfl rfl ?_
    refine ok_getI dX2_wouldThrow_126 f_X2_31 (by first | exact is_lit hv (by decide) rfl | exact is_sq hv hq | exact is_row hv hq | exact is_pn hv hq (by assumption) | assumption) rfl ?_
    refine ok_iconst (v := 1) dX2_wouldThrow_129 (by decide) ?_
    refine ok_isub dX2_wouldThrow_130 ?_
    refine ok_iload_n dX2_wouldThrow_131 rfl rfl ?_
    refine ok_callV (M' := mX2_shortAt) (b' := (0, 0)) (As := [_, _]) (cx := 2) dX2_wouldThrow_132 iX2_shortAt w_291 (by decide) rfl (by first | exact is_lit hv (by decide) rfl | exact is_sq hv hq | exact is_row hv hq | exact is_pn hv hq (by assumption) | assumption) rfl (Nat.le_of_ble_eq_true rfl) ⟨Nat.le_of_ble_eq_true rfl, Nat.le_of_ble_eq_true rfl⟩ (Nat.le_of_ble_eq_true rfl) rfl rfl ?_
    refine sp_X2_shortAt hv hq hj R _ ?_
    refine ok_istore (lo' := [_, _, _, _, _]) dX2_wouldThrow_135 (Nat.le_of_ble_eq_true rfl) rfl rfl ?_
    refine ok_goto (tgt := 140) dX2_wouldThrow_137 (by decide) ?_
    refine ok_iload dX2_wouldThrow_140 rfl ?_
    refine ok_aload_n dX2_wouldThrow_142 rfl rfl ?_
    refine ok_getI dX2_wouldThrow_143 f_X2_75 (by first | exact is_lit hv (by decide) rfl | exact is_sq hv hq | exact is_row hv hq | exact is_pn hv hq (by assumption) | assumption) rfl ?_
    refine ok_min dX2_wouldThrow_146 w_292 w_293 w_71 w_294 (Nat.le_of_ble_eq_true rfl) (Nat.le_of_ble_eq_true rfl) ?_
    refine ok_ireturn dX2_wouldThrow_149 rfl rfl ?_
    unfold w_would w_raw at K
    rw [min_cut, R.K.2.1]
    simp only [ek, n01, n02, n03, n04, n05, n12, n13, n14, n15, n21, n23, n24, n25, n31, n32, n34, n35, n41, n42, n43, n45, n51, n52, n53, n54, ↓reduceIte] at K
    first | exact K | (rw [R.2.2.2.1]; exact K)
