/-! ===== the class: copies, books, readings, images, counts, the tape ===== -/
theorem part_or {z : Nat} (hz : z ≤ 40) (f n : Int32) : w_part (nI z) f n = 0 ∨ ∃ f' n' : Nat, f = nI f' ∧ n = nI n' ∧ f' + n' ≤ z := by
  by_cases h1 : f < 0
  · exact Or.inl (if_pos h1)
  by_cases h2 : n < 0
  · exact Or.inl ((if_neg h1).trans (if_pos h2))
  by_cases h3 : nI z < f
  · exact Or.inl ((if_neg h1).trans ((if_neg h2).trans (if_pos h3)))
  by_cases h4 : nI z - f < n
  · exact Or.inl ((if_neg h1).trans ((if_neg h2).trans ((if_neg h3).trans (if_pos h4))))
  right
  have ez : (nI z).toInt = z := nI_toInt (by omega)
  have e0 : (0 : Int32).toInt = 0 := rfl
  rw [i_lt] at h1 h2 h3
  rw [i_lt, fb_subI (by omega) (by omega)] at h4
  refine ⟨f.toInt.toNat, n.toInt.toNat, ?_, ?_, by omega⟩
  · rw [i_eq, nI_toInt (by omega)]; omega
  · rw [i_eq, nI_toInt (by omega)]; omega
theorem part_ok {z f n : Nat} (hz : z ≤ 40) (h : f + n ≤ z) : w_part (nI z) (nI f) (nI n) = 1 := by
  have ez : (nI z).toInt = z := nI_toInt (by omega)
  have ef : (nI f).toInt = f := nI_toInt (by omega)
  have en : (nI n).toInt = n := nI_toInt (by omega)
  have e0 : (0 : Int32).toInt = 0 := rfl
  unfold w_part
  rw [if_neg (by rw [i_lt]; omega), if_neg (by rw [i_lt]; omega), if_neg (by rw [i_lt]; omega), if_neg (by rw [i_lt, fb_subI (by omega) (by omega)]; omega)]
theorem sp_X4_copy_b {g : GG} {h : Hp} {Post : Option Value → Hp → Prop} (hv : Inv h) (v f t o n : Int32) (hb : v < 0 ∨ 4 ≤ v) (K : Post (some (.int (-1000000001))) (hfi h 0)) : Sp g mX4_copy [.ref 0, .int v, .int f, .int t, .int o, .int n] h Post := by
  show Go g mX4_copy 0 [_, _, _, _, _, _] [] _ _ _
  refine ok_iload_n dX4_copy_0 rfl rfl ?_
  refine ok_callS (M' := mX4_isSheet) (b' := (0, 0)) (As := [_]) dX4_copy_1 iX4_isSheet w_686 rfl (Nat.le_of_ble_eq_true rfl) ⟨Nat.le_of_ble_eq_true rfl, Nat.le_of_ble_eq_true rfl⟩ (Nat.le_of_ble_eq_true rfl) rfl rfl ?_
  refine sp_X4_isSheet _ ?_
  rw [ss_bad hb]
  refine ok_if_eq (tgt := 14) dX4_copy_4 (by decide) (fun _ => ?_) (fun c9 => absurd rfl c9)
  refine ok_aload_n dX4_copy_14 rfl rfl ?_
  refine ok_ldc dX4_copy_15 w_253 ?_
  refine ok_callV (M' := mX4_finding) (b' := (0, 0)) (As := [_]) (cx := 4) dX4_copy_17 iX4_finding w_254 (by decide) rfl (by first | exact is_lit hv (by decide) rfl | exact is_sq hv hq | exact is_row hv hq | exact is_pn hv hq (by assumption) | assumption) rfl (Nat.le_of_ble_eq_true rfl) ⟨Nat.le_of_ble_eq_true rfl, Nat.le_of_ble_eq_true rfl⟩ (Nat.le_of_ble_eq_true rfl) rfl rfl ?_
  refine sp_X4_finding hv (k := 0) (by decide) (by decide) ?_
  refine ok_ireturn dX4_copy_20 rfl rfl ?_
  first | exact K | (simp only [↓reduceIte] at K; exact K)
theorem sp_X4_copy_c {g : GG} {h : Hp} {Post : Option Value → Hp → Prop} (hv : Inv h) {s : Nat} (hs : s < 4) (f o n : Int32) {t : Int32} (hb : t < 0 ∨ 4 ≤ t) (K : Post (some (.int (-1000000001))) (hfi h 0)) : Sp g mX4_copy [.ref 0, .int (nI s), .int f, .int t, .int o, .int n] h Post := by
  show Go g mX4_copy 0 [_, _, _, _, _, _] [] _ _ _
  refine ok_iload_n dX4_copy_0 rfl rfl ?_
  refine ok_callS (M' := mX4_isSheet) (b' := (0, 0)) (As := [_]) dX4_copy_1 iX4_isSheet w_686 rfl (Nat.le_of_ble_eq_true rfl) ⟨Nat.le_of_ble_eq_true rfl, Nat.le_of_ble_eq_true rfl⟩ (Nat.le_of_ble_eq_true rfl) rfl rfl ?_
  refine sp_X4_isSheet _ ?_
  rw [ss_ok hs]
  refine ok_if_eq (tgt := 14) dX4_copy_4 (by decide) (fun c9 => absurd c9 (by decide)) (fun _ => ?_)
  refine ok_iload_n dX4_copy_7 rfl rfl ?_
  refine ok_callS (M' := mX4_isSheet) (b' := (0, 0)) (As := [_]) dX4_copy_8 iX4_isSheet w_686 rfl (Nat.le_of_ble_eq_true rfl) ⟨Nat.le_of_ble_eq_true rfl, Nat.le_of_ble_eq_true rfl⟩ (Nat.le_of_ble_eq_true rfl) rfl rfl ?_
  refine sp_X4_isSheet _ ?_
  rw [ss_bad hb]
  refine ok_if_ne (tgt := 21) dX4_copy_11 (by decide) (fun c9 => absurd c9 (fun c => c rfl)) (fun _ => ?_)
  refine ok_aload_n dX4_copy_14 rfl rfl ?_
  refine ok_ldc dX4_copy_15 w_253 ?_
  refine ok_callV (M' := mX4_finding) (b' := (0, 0)) (As := [_]) (cx := 4) dX4_copy_17 iX4_finding w_254 (by decide) rfl (by first | exact is_lit hv (by decide) rfl | exact is_sq hv hq | exact is_row hv hq | exact is_pn hv hq (by assumption) | assumption) rfl (Nat.le_of_ble_eq_true rfl) ⟨Nat.le_of_ble_eq_true rfl, Nat.le_of_ble_eq_true rfl⟩ (Nat.le_of_ble_eq_true rfl) rfl rfl ?_
  refine sp_X4_finding hv (k := 0) (by decide) (by decide) ?_
  refine ok_ireturn dX4_copy_20 rfl rfl ?_
  first | exact K | (simp only [↓reduceIte] at K; exact K)
theorem sp_X4_copy_m {g : GG} {h : Hp} {Post : Option Value → Hp → Prop} (hv : Inv h) {s : Nat} (hs : s < 4) {t : Nat} (ht : t < 4) (f o n : Int32) (hm : hI h (41 + 2 * s) 0 = 0) (K : Post (some (.int (-1000000006))) (hfi h 5)) : Sp g mX4_copy [.ref 0, .int (nI s), .int f, .int (nI t), .int o, .int n] h Post := by
  show Go g mX4_copy 0 [_, _, _, _, _, _] [] _ _ _
  refine ok_iload_n dX4_copy_0 rfl rfl ?_
  refine ok_callS (M' := mX4_isSheet) (b' := (0, 0)) (As := [_]) dX4_copy_1 iX4_isSheet w_686 rfl (Nat.le_of_ble_eq_true rfl) ⟨Nat.le_of_ble_eq_true rfl, Nat.le_of_ble_eq_true rfl⟩ (Nat.le_of_ble_eq_true rfl) rfl rfl ?_
  refine sp_X4_isSheet _ ?_
  rw [ss_ok hs]
  refine ok_if_eq (tgt := 14) dX4_copy_4 (by decide) (fun c9 => absurd c9 (by decide)) (fun _ => ?_)
  refine ok_iload_n dX4_copy_7 rfl rfl ?_
  refine ok_callS (M' := mX4_isSheet) (b' := (0, 0)) (As := [_]) dX4_copy_8 iX4_isSheet w_686 rfl (Nat.le_of_ble_eq_true rfl) ⟨Nat.le_of_ble_eq_true rfl, Nat.le_of_ble_eq_true rfl⟩ (Nat.le_of_ble_eq_true rfl) rfl rfl ?_
  refine sp_X4_isSheet _ ?_
  rw [ss_ok ht]
  refine ok_if_ne (tgt := 21) dX4_copy_11 (by decide) (fun _ => ?_) (fun c9 => absurd c9 (by decide))
  refine ok_aload_n dX4_copy_21 rfl rfl ?_
  refine ok_getR dX4_copy_22 f_X4_39 (by first | exact is_lit hv (by decide) rfl | exact is_sq hv hq | exact is_row hv hq | exact is_pn hv hq (by assumption) | assumption) rfl (by first | exact rf hv rfl | exact rf_row hv hq | assumption) ?_
  refine ok_iload_n dX4_copy_25 rfl rfl ?_
  refine ok_aaloadS dX4_copy_26 (is_lit hv (by decide) rfl) (in_4 hs) (rf_sh hv hs) ?_
  refine ok_callV (M' := mX1_isMissing) (b' := (0, 0)) (As := []) (cx := 1) dX4_copy_27 iX1_isMissing w_700 (by decide) rfl (is_sh hv hs) rfl (Nat.le_of_ble_eq_true rfl) ⟨Nat.le_of_ble_eq_true rfl, Nat.le_of_ble_eq_true rfl⟩ (Nat.le_of_ble_eq_true rfl) rfl rfl ?_
  refine sp_X1_isMissing (is_sh hv hs) ?_
  rw [if_pos hm]
  refine ok_if_ne (tgt := 45) dX4_copy_30 (by decide) (fun _ => ?_) (fun c9 => absurd c9 (by decide))
  refine ok_aload_n dX4_copy_45 rfl rfl ?_
  refine ok_ldc dX4_copy_46 w_704 ?_
  refine ok_callV (M' := mX4_finding) (b' := (0, 0)) (As := [_]) (cx := 4) dX4_copy_48 iX4_finding w_254 (by decide) rfl (by first | exact is_lit hv (by decide) rfl | exact is_sq hv hq | exact is_row hv hq | exact is_pn hv hq (by assumption) | assumption) rfl (Nat.le_of_ble_eq_true rfl) ⟨Nat.le_of_ble_eq_true rfl, Nat.le_of_ble_eq_true rfl⟩ (Nat.le_of_ble_eq_true rfl) rfl rfl ?_
  refine sp_X4_finding hv (k := 5) (by decide) (by decide) ?_
  refine ok_ireturn dX4_copy_51 rfl rfl ?_
  first | exact K | (simp only [↓reduceIte] at K; exact K)
theorem sp_X4_copy_n {g : GG} {h : Hp} {Post : Option Value → Hp → Prop} (hv : Inv h) {s : Nat} (hs : s < 4) {t : Nat} (ht : t < 4) (f o n : Int32) (hm : ¬ hI h (41 + 2 * s) 0 = 0) (hm2 : hI h (41 + 2 * t) 0 = 0) (K : Post (some (.int (-1000000006))) (hfi h 5)) : Sp g mX4_copy [.ref 0, .int (nI s), .int f, .int (nI t), .int o, .int n] h Post := by
  show Go g mX4_copy 0 [_, _, _, _, _, _] [] _ _ _
  refine ok_iload_n dX4_copy_0 rfl rfl ?_
  refine ok_callS (M' := mX4_isSheet) (b' := (0, 0)) (As := [_]) dX4_copy_1 iX4_isSheet w_686 rfl (Nat.le_of_ble_eq_true rfl) ⟨Nat.le_of_ble_eq_true rfl, Nat.le_of_ble_eq_true rfl⟩ (Nat.le_of_ble_eq_true rfl) rfl rfl ?_
  refine sp_X4_isSheet _ ?_
  rw [ss_ok hs]
  refine ok_if_eq (tgt := 14) dX4_copy_4 (by decide) (fun c9 => absurd c9 (by decide)) (fun _ => ?_)
  refine ok_iload_n dX4_copy_7 rfl rfl ?_
  refine ok_callS (M' := mX4_isSheet) (b' := (0, 0)) (As := [_]) dX4_copy_8 iX4_isSheet w_686 rfl (Nat.le_of_ble_eq_true rfl) ⟨Nat.le_of_ble_eq_true rfl, Nat.le_of_ble_eq_true rfl⟩ (Nat.le_of_ble_eq_true rfl) rfl rfl ?_
  refine sp_X4_isSheet _ ?_
  rw [ss_ok ht]
  refine ok_if_ne (tgt := 21) dX4_copy_11 (by decide) (fun _ => ?_) (fun c9 => absurd c9 (by decide))
  refine ok_aload_n dX4_copy_21 rfl rfl ?_
  refine ok_getR dX4_copy_22 f_X4_39 (by first | exact is_lit hv (by decide) rfl | exact is_sq hv hq | exact is_row hv hq | exact is_pn hv hq (by assumption) | assumption) rfl (by first | exact rf hv rfl | exact rf_row hv hq | assumption) ?_
  refine ok_iload_n dX4_copy_25 rfl rfl ?_
  refine ok_aaloadS dX4_copy_26 (is_lit hv (by decide) rfl) (in_4 hs) (rf_sh hv hs) ?_
  refine ok_callV (M' := mX1_isMissing) (b' := (0, 0)) (As := []) (cx := 1) dX4_copy_27 iX1_isMissing w_700 (by decide) rfl (is_sh hv hs) rfl (Nat.le_of_ble_eq_true rfl) ⟨Nat.le_of_ble_eq_true rfl, Nat.le_of_ble_eq_true rfl⟩ (Nat.le_of_ble_eq_true rfl) rfl rfl ?_
  refine sp_X1_isMissing (is_sh hv hs) ?_
  rw [if_neg hm]
  refine ok_if_ne (tgt := 45) dX4_copy_30 (by decide) (fun c9 => absurd c9 (fun c => c rfl)) (fun _ => ?_)
  refine ok_aload_n dX4_copy_33 rfl rfl ?_
  refine ok_getR dX4_copy_34 f_X4_39 (by first | exact is_lit hv (by decide) rfl | exact is_sq hv hq | exact is_row hv hq | exact is_pn hv hq (by assumption) | assumption) rfl (by first | exact rf hv rfl | exact rf_row hv hq | assumption) ?_
  refine ok_iload_n dX4_copy_37 rfl rfl ?_
  refine ok_aaloadS dX4_copy_38 (is_lit hv (by decide) rfl) (in_4 ht) (rf_sh hv ht) ?_
  refine ok_callV (M' := mX1_isMissing) (b' := (0, 0)) (As := []) (cx := 1) dX4_copy_39 iX1_isMissing w_700 (by decide) rfl (is_sh hv ht) rfl (Nat.le_of_ble_eq_true rfl) ⟨Nat.le_of_ble_eq_true rfl, Nat.le_of_ble_eq_true rfl⟩ (Nat.le_of_ble_eq_true rfl) rfl rfl ?_
  refine sp_X1_isMissing (is_sh hv ht) ?_
  rw [if_pos hm2]
  refine ok_if_eq (tgt := 52) dX4_copy_42 (by decide) (fun c9 => absurd c9 (by decide)) (fun _ => ?_)
  refine ok_aload_n dX4_copy_45 rfl rfl ?_
  refine ok_ldc dX4_copy_46 w_704 ?_
  refine ok_callV (M' := mX4_finding) (b' := (0, 0)) (As := [_]) (cx := 4) dX4_copy_48 iX4_finding w_254 (by decide) rfl (by first | exact is_lit hv (by decide) rfl | exact is_sq hv hq | exact is_row hv hq | exact is_pn hv hq (by assumption) | assumption) rfl (Nat.le_of_ble_eq_true rfl) ⟨Nat.le_of_ble_eq_true rfl, Nat.le_of_ble_eq_true rfl⟩ (Nat.le_of_ble_eq_true rfl) rfl rfl ?_
  refine sp_X4_finding hv (k := 5) (by decide) (by decide) ?_
  refine ok_ireturn dX4_copy_51 rfl rfl ?_
  first | exact K | (simp only [↓reduceIte] at K; exact K)
theorem sp_X4_copy_k {g : GG} {h : Hp} {Post : Option Value → Hp → Prop} (hv : Inv h) {s : Nat} (hs : s < 4) {t : Nat} (ht : t < 4) (f o n : Int32) (hm : ¬ hI h (41 + 2 * s) 0 = 0) (hm2 : ¬ hI h (41 + 2 * t) 0 = 0) (hk : ¬ hI h (41 + 2 * s) 0 = hI h (41 + 2 * t) 0) (K : Post (some (.int (-1000000003))) (hfi h 2)) : Sp g mX4_copy [.ref 0, .int (nI s), .int f, .int (nI t), .int o, .int n] h Post := by
  show Go g mX4_copy 0 [_, _, _, _, _, _] [] _ _ _
  refine ok_iload_n dX4_copy_0 rfl rfl ?_
  refine ok_callS (M' := mX4_isSheet) (b' := (0, 0)) (As := [_]) dX4_copy_1 iX4_isSheet w_686 rfl (Nat.le_of_ble_eq_true rfl) ⟨Nat.le_of_ble_eq_true rfl, Nat.le_of_ble_eq_true rfl⟩ (Nat.le_of_ble_eq_true rfl) rfl rfl ?_
  refine sp_X4_isSheet _ ?_
  rw [ss_ok hs]
  refine ok_if_eq (tgt := 14) dX4_copy_4 (by decide) (fun c9 => absurd c9 (by decide)) (fun _ => ?_)
  refine ok_iload_n dX4_copy_7 rfl rfl ?_
  refine ok_callS (M' := mX4_isSheet) (b' := (0, 0)) (As := [_]) dX4_copy_8 iX4_isSheet w_686 rfl (Nat.le_of_ble_eq_true rfl) ⟨Nat.le_of_ble_eq_true rfl, Nat.le_of_ble_eq_true rfl⟩ (Nat.le_of_ble_eq_true rfl) rfl rfl ?_
  refine sp_X4_isSheet _ ?_
  rw [ss_ok ht]
  refine ok_if_ne (tgt := 21) dX4_copy_11 (by decide) (fun _ => ?_) (fun c9 => absurd c9 (by decide))
  refine ok_aload_n dX4_copy_21 rfl rfl ?_
  refine ok_getR dX4_copy_22 f_X4_39 (by first | exact is_lit hv (by decide) rfl | exact is_sq hv hq | exact is_row hv hq | exact is_pn hv hq (by assumption) | assumption) rfl (by first | exact rf hv rfl | exact rf_row hv hq | assumption) ?_
  refine ok_iload_n dX4_copy_25 rfl rfl ?_
  refine ok_aaloadS dX4_copy_26 (is_lit hv (by decide) rfl) (in_4 hs) (rf_sh hv hs) ?_
  refine ok_callV (M' := mX1_isMissing) (b' := (0, 0)) (As := []) (cx := 1) dX4_copy_27 iX1_isMissing w_700 (by decide) rfl (is_sh hv hs) rfl (Nat.le_of_ble_eq_true rfl) ⟨Nat.le_of_ble_eq_true rfl, Nat.le_of_ble_eq_true rfl⟩ (Nat.le_of_ble_eq_true rfl) rfl rfl ?_
  refine sp_X1_isMissing (is_sh hv hs) ?_
  rw [if_neg hm]
  refine ok_if_ne (tgt := 45) dX4_copy_30 (by decide) (fun c9 => absurd c9 (fun c => c rfl)) (fun _ => ?_)
  refine ok_aload_n dX4_copy_33 rfl rfl ?_
  refine ok_getR dX4_copy_34 f_X4_39 (by first | exact is_lit hv (by decide) rfl | exact is_sq hv hq | exact is_row hv hq | exact is_pn hv hq (by assumption) | assumption) rfl (by first | exact rf hv rfl | exact rf_row hv hq | assumption) ?_
  refine ok_iload_n dX4_copy_37 rfl rfl ?_
  refine ok_aaloadS dX4_copy_38 (is_lit hv (by decide) rfl) (in_4 ht) (rf_sh hv ht) ?_
  refine ok_callV (M' := mX1_isMissing) (b' := (0, 0)) (As := []) (cx := 1) dX4_copy_39 iX1_isMissing w_700 (by decide) rfl (is_sh hv ht) rfl (Nat.le_of_ble_eq_true rfl) ⟨Nat.le_of_ble_eq_true rfl, Nat.le_of_ble_eq_true rfl⟩ (Nat.le_of_ble_eq_true rfl) rfl rfl ?_
  refine sp_X1_isMissing (is_sh hv ht) ?_
  rw [if_neg hm2]
  refine ok_if_eq (tgt := 52) dX4_copy_42 (by decide) (fun _ => ?_) (fun c9 => absurd rfl c9)
  refine ok_aload_n dX4_copy_52 rfl rfl ?_
  refine ok_getR dX4_copy_53 f_X4_39 (by first | exact is_lit hv (by decide) rfl | exact is_sq hv hq | exact is_row hv hq | exact is_pn hv hq (by assumption) | assumption) rfl (by first | exact rf hv rfl | exact rf_row hv hq | assumption) ?_
  refine ok_iload_n dX4_copy_56 rfl rfl ?_
  refine ok_aaloadS dX4_copy_57 (is_lit hv (by decide) rfl) (in_4 hs) (rf_sh hv hs) ?_
  refine ok_getI dX4_copy_58 f_X4_237 (is_sh hv hs) rfl ?_
  refine ok_aload_n dX4_copy_61 rfl rfl ?_
  refine ok_getR dX4_copy_62 f_X4_39 (by first | exact is_lit hv (by decide) rfl | exact is_sq hv hq | exact is_row hv hq | exact is_pn hv hq (by assumption) | assumption) rfl (by first | exact rf hv rfl | exact rf_row hv hq | assumption) ?_
  refine ok_iload_n dX4_copy_65 rfl rfl ?_
  refine ok_aaloadS dX4_copy_66 (is_lit hv (by decide) rfl) (in_4 ht) (rf_sh hv ht) ?_
  refine ok_getI dX4_copy_67 f_X4_237 (is_sh hv ht) rfl ?_
  refine ok_icmp_eq (tgt := 80) dX4_copy_70 (by decide) (fun c9 => absurd c9 hk) (fun _ => ?_)
  refine ok_aload_n dX4_copy_73 rfl rfl ?_
  refine ok_ldc dX4_copy_74 w_318 ?_
  refine ok_callV (M' := mX4_finding) (b' := (0, 0)) (As := [_]) (cx := 4) dX4_copy_76 iX4_finding w_254 (by decide) rfl (by first | exact is_lit hv (by decide) rfl | exact is_sq hv hq | exact is_row hv hq | exact is_pn hv hq (by assumption) | assumption) rfl (Nat.le_of_ble_eq_true rfl) ⟨Nat.le_of_ble_eq_true rfl, Nat.le_of_ble_eq_true rfl⟩ (Nat.le_of_ble_eq_true rfl) rfl rfl ?_
  refine sp_X4_finding hv (k := 2) (by decide) (by decide) ?_
  refine ok_ireturn dX4_copy_79 rfl rfl ?_
  first | exact K | (simp only [↓reduceIte] at K; exact K)
theorem sp_X4_copy_p {g : GG} {h : Hp} {Post : Option Value → Hp → Prop} (hv : Inv h) {s : Nat} (hs : s < 4) {t : Nat} (ht : t < 4) (f o n : Int32) (hm : ¬ hI h (41 + 2 * s) 0 = 0) (hm2 : ¬ hI h (41 + 2 * t) 0 = 0) (hk : hI h (41 + 2 * s) 0 = hI h (41 + 2 * t) 0) (hp : w_part (hI h (41 + 2 * s) 1) f n = 0) (K : Post (some (.int (-1000000001))) (hfi h 0)) : Sp g mX4_copy [.ref 0, .int (nI s), .int f, .int (nI t), .int o, .int n] h Post := by
  show Go g mX4_copy 0 [_, _, _, _, _, _] [] _ _ _
  refine ok_iload_n dX4_copy_0 rfl rfl ?_
  refine ok_callS (M' := mX4_isSheet) (b' := (0, 0)) (As := [_]) dX4_copy_1 iX4_isSheet w_686 rfl (Nat.le_of_ble_eq_true rfl) ⟨Nat.le_of_ble_eq_true rfl, Nat.le_of_ble_eq_true rfl⟩ (Nat.le_of_ble_eq_true rfl) rfl rfl ?_
  refine sp_X4_isSheet _ ?_
  rw [ss_ok hs]
  refine ok_if_eq (tgt := 14) dX4_copy_4 (by decide) (fun c9 => absurd c9 (by decide)) (fun _ => ?_)
  refine ok_iload_n dX4_copy_7 rfl rfl ?_
  refine ok_callS (M' := mX4_isSheet) (b' := (0, 0)) (As := [_]) dX4_copy_8 iX4_isSheet w_686 rfl (Nat.le_of_ble_eq_true rfl) ⟨Nat.le_of_ble_eq_true rfl, Nat.le_of_ble_eq_true rfl⟩ (Nat.le_of_ble_eq_true rfl) rfl rfl ?_
  refine sp_X4_isSheet _ ?_
  rw [ss_ok ht]
  refine ok_if_ne (tgt := 21) dX4_copy_11 (by decide) (fun _ => ?_) (fun c9 => absurd c9 (by decide))
  refine ok_aload_n dX4_copy_21 rfl rfl ?_
  refine ok_getR dX4_copy_22 f_X4_39 (by first | exact is_lit hv (by decide) rfl | exact is_sq hv hq | exact is_row hv hq | exact is_pn hv hq (by assumption) | assumption) rfl (by first | exact rf hv rfl | exact rf_row hv hq | assumption) ?_
  refine ok_iload_n dX4_copy_25 rfl rfl ?_
  refine ok_aaloadS dX4_copy_26 (is_lit hv (by decide) rfl) (in_4 hs) (rf_sh hv hs) ?_
  refine ok_callV (M' := mX1_isMissing) (b' := (0, 0)) (As := []) (cx := 1) dX4_copy_27 iX1_isMissing w_700 (by decide) rfl (is_sh hv hs) rfl (Nat.le_of_ble_eq_true rfl) ⟨Nat.le_of_ble_eq_true rfl, Nat.le_of_ble_eq_true rfl⟩ (Nat.le_of_ble_eq_true rfl) rfl rfl ?_
  refine sp_X1_isMissing (is_sh hv hs) ?_
  rw [if_neg hm]
  refine ok_if_ne (tgt := 45) dX4_copy_30 (by decide) (fun c9 => absurd c9 (fun c => c rfl)) (fun _ => ?_)
  refine ok_aload_n dX4_copy_33 rfl rfl ?_
  refine ok_getR dX4_copy_34 f_X4_39 (by first | exact is_lit hv (by decide) rfl | exact is_sq hv hq | exact is_row hv hq | exact is_pn hv hq (by assumption) | assumption) rfl (by first | exact rf hv rfl | exact rf_row hv hq | assumption) ?_
  refine ok_iload_n dX4_copy_37 rfl rfl ?_
  refine ok_aaloadS dX4_copy_38 (is_lit hv (by decide) rfl) (in_4 ht) (rf_sh hv ht) ?_
  refine ok_callV (M' := mX1_isMissing) (b' := (0, 0)) (As := []) (cx := 1) dX4_copy_39 iX1_isMissing w_700 (by decide) rfl (is_sh hv ht) rfl (Nat.le_of_ble_eq_true rfl) ⟨Nat.le_of_ble_eq_true rfl, Nat.le_of_ble_eq_true rfl⟩ (Nat.le_of_ble_eq_true rfl) rfl rfl ?_
  refine sp_X1_isMissing (is_sh hv ht) ?_
  rw [if_neg hm2]
  refine ok_if_eq (tgt := 52) dX4_copy_42 (by decide) (fun _ => ?_) (fun c9 => absurd rfl c9)
  refine ok_aload_n dX4_copy_52 rfl rfl ?_
  refine ok_getR dX4_copy_53 f_X4_39 (by first | exact is_lit hv (by decide) rfl | exact is_sq hv hq | exact is_row hv hq | exact is_pn hv hq (by assumption) | assumption) rfl (by first | exact rf hv rfl | exact rf_row hv hq | assumption) ?_
  refine ok_iload_n dX4_copy_56 rfl rfl ?_
  refine ok_aaloadS dX4_copy_57 (is_lit hv (by decide) rfl) (in_4 hs) (rf_sh hv hs) ?_
  refine ok_getI dX4_copy_58 f_X4_237 (is_sh hv hs) rfl ?_
  refine ok_aload_n dX4_copy_61 rfl rfl ?_
  refine ok_getR dX4_copy_62 f_X4_39 (by first | exact is_lit hv (by decide) rfl | exact is_sq hv hq | exact is_row hv hq | exact is_pn hv hq (by assumption) | assumption) rfl (by first | exact rf hv rfl | exact rf_row hv hq | assumption) ?_
  refine ok_iload_n dX4_copy_65 rfl rfl ?_
  refine ok_aaloadS dX4_copy_66 (is_lit hv (by decide) rfl) (in_4 ht) (rf_sh hv ht) ?_
  refine ok_getI dX4_copy_67 f_X4_237 (is_sh hv ht) rfl ?_
  refine ok_icmp_eq (tgt := 80) dX4_copy_70 (by decide) (fun _ => ?_) (fun c9 => absurd hk c9)
  refine ok_aload_n dX4_copy_80 rfl rfl ?_
  refine ok_getR dX4_copy_81 f_X4_39 (by first | exact is_lit hv (by decide) rfl | exact is_sq hv hq | exact is_row hv hq | exact is_pn hv hq (by assumption) | assumption) rfl (by first | exact rf hv rfl | exact rf_row hv hq | assumption) ?_
  refine ok_iload_n dX4_copy_84 rfl rfl ?_
  refine ok_aaloadS dX4_copy_85 (is_lit hv (by decide) rfl) (in_4 hs) (rf_sh hv hs) ?_
  refine ok_iload_n dX4_copy_86 rfl rfl ?_
  refine ok_iload dX4_copy_87 rfl ?_
  refine ok_callV (M' := mX1_hasPart) (b' := (0, 0)) (As := [_, _]) (cx := 1) dX4_copy_89 iX1_hasPart w_717 (by decide) rfl (is_sh hv hs) rfl (Nat.le_of_ble_eq_true rfl) ⟨Nat.le_of_ble_eq_true rfl, Nat.le_of_ble_eq_true rfl⟩ (Nat.le_of_ble_eq_true rfl) rfl rfl ?_
  refine sp_X1_hasPart (is_sh hv hs) _ _ ?_
  rw [hp]
  refine ok_if_eq (tgt := 111) dX4_copy_92 (by decide) (fun _ => ?_) (fun c9 => absurd rfl c9)
  refine ok_aload_n dX4_copy_111 rfl rfl ?_
  refine ok_ldc dX4_copy_112 w_253 ?_
  refine ok_callV (M' := mX4_finding) (b' := (0, 0)) (As := [_]) (cx := 4) dX4_copy_114 iX4_finding w_254 (by decide) rfl (by first | exact is_lit hv (by decide) rfl | exact is_sq hv hq | exact is_row hv hq | exact is_pn hv hq (by assumption) | assumption) rfl (Nat.le_of_ble_eq_true rfl) ⟨Nat.le_of_ble_eq_true rfl, Nat.le_of_ble_eq_true rfl⟩ (Nat.le_of_ble_eq_true rfl) rfl rfl ?_
  refine sp_X4_finding hv (k := 0) (by decide) (by decide) ?_
  refine ok_ireturn dX4_copy_117 rfl rfl ?_
  first | exact K | (simp only [↓reduceIte] at K; exact K)
theorem sp_X4_copy_q {g : GG} {h : Hp} {Post : Option Value → Hp → Prop} (hv : Inv h) {s : Nat} (hs : s < 4) {t : Nat} (ht : t < 4) (f o n : Int32) (hm : ¬ hI h (41 + 2 * s) 0 = 0) (hm2 : ¬ hI h (41 + 2 * t) 0 = 0) (hk : hI h (41 + 2 * s) 0 = hI h (41 + 2 * t) 0) (hp : w_part (hI h (41 + 2 * s) 1) f n = 1) (hq : w_part (hI h (41 + 2 * t) 1) o n = 0) (K : Post (some (.int (-1000000001))) (hfi h 0)) : Sp g mX4_copy [.ref 0, .int (nI s), .int f, .int (nI t), .int o, .int n] h Post := by
  show Go g mX4_copy 0 [_, _, _, _, _, _] [] _ _ _
  refine ok_iload_n dX4_copy_0 rfl rfl ?_
  refine ok_callS (M' := mX4_isSheet) (b' := (0, 0)) (As := [_]) dX4_copy_1 iX4_isSheet w_686 rfl (Nat.le_of_ble_eq_true rfl) ⟨Nat.le_of_ble_eq_true rfl, Nat.le_of_ble_eq_true rfl⟩ (Nat.le_of_ble_eq_true rfl) rfl rfl ?_
  refine sp_X4_isSheet _ ?_
  rw [ss_ok hs]
  refine ok_if_eq (tgt := 14) dX4_copy_4 (by decide) (fun c9 => absurd c9 (by decide)) (fun _ => ?_)
  refine ok_iload_n dX4_copy_7 rfl rfl ?_
  refine ok_callS (M' := mX4_isSheet) (b' := (0, 0)) (As := [_]) dX4_copy_8 iX4_isSheet w_686 rfl (Nat.le_of_ble_eq_true rfl) ⟨Nat.le_of_ble_eq_true rfl, Nat.le_of_ble_eq_true rfl⟩ (Nat.le_of_ble_eq_true rfl) rfl rfl ?_
  refine sp_X4_isSheet _ ?_
  rw [ss_ok ht]
  refine ok_if_ne (tgt := 21) dX4_copy_11 (by decide) (fun _ => ?_) (fun c9 => absurd c9 (by decide))
  refine ok_aload_n dX4_copy_21 rfl rfl ?_
  refine ok_getR dX4_copy_22 f_X4_39 (by first | exact is_lit hv (by decide) rfl | exact is_sq hv hq | exact is_row hv hq | exact is_pn hv hq (by assumption) | assumption) rfl (by first | exact rf hv rfl | exact rf_row hv hq | assumption) ?_
  refine ok_iload_n dX4_copy_25 rfl rfl ?_
  refine ok_aaloadS dX4_copy_26 (is_lit hv (by decide) rfl) (in_4 hs) (rf_sh hv hs) ?_
  refine ok_callV (M' := mX1_isMissing) (b' := (0, 0)) (As := []) (cx := 1) dX4_copy_27 iX1_isMissing w_700 (by decide) rfl (is_sh hv hs) rfl (Nat.le_of_ble_eq_true rfl) ⟨Nat.le_of_ble_eq_true rfl, Nat.le_of_ble_eq_true rfl⟩ (Nat.le_of_ble_eq_true rfl) rfl rfl ?_
  refine sp_X1_isMissing (is_sh hv hs) ?_
  rw [if_neg hm]
  refine ok_if_ne (tgt := 45) dX4_copy_30 (by decide) (fun c9 => absurd c9 (fun c => c rfl)) (fun _ => ?_)
  refine ok_aload_n dX4_copy_33 rfl rfl ?_
  refine ok_getR dX4_copy_34 f_X4_39 (by first | exact is_lit hv (by decide) rfl | exact is_sq hv hq | exact is_row hv hq | exact is_pn hv hq (by assumption) | assumption) rfl (by first | exact rf hv rfl | exact rf_row hv hq | assumption) ?_
  refine ok_iload_n dX4_copy_37 rfl rfl ?_
  refine ok_aaloadS dX4_copy_38 (is_lit hv (by decide) rfl) (in_4 ht) (rf_sh hv ht) ?_
  refine ok_callV (M' := mX1_isMissing) (b' := (0, 0)) (As := []) (cx := 1) dX4_copy_39 iX1_isMissing w_700 (by decide) rfl (is_sh hv ht) rfl (Nat.le_of_ble_eq_true rfl) ⟨Nat.le_of_ble_eq_true rfl, Nat.le_of_ble_eq_true rfl⟩ (Nat.le_of_ble_eq_true rfl) rfl rfl ?_
  refine sp_X1_isMissing (is_sh hv ht) ?_
  rw [if_neg hm2]
  refine ok_if_eq (tgt := 52) dX4_copy_42 (by decide) (fun _ => ?_) (fun c9 => absurd rfl c9)
  refine ok_aload_n dX4_copy_52 rfl rfl ?_
  refine ok_getR dX4_copy_53 f_X4_39 (by first | exact is_lit hv (by decide) rfl | exact is_sq hv hq | exact is_row hv hq | exact is_pn hv hq (by assumption) | assumption) rfl (by first | exact rf hv rfl | exact rf_row hv hq | assumption) ?_
  refine ok_iload_n dX4_copy_56 rfl rfl ?_
  refine ok_aaloadS dX4_copy_57 (is_lit hv (by decide) rfl) (in_4 hs) (rf_sh hv hs) ?_
  refine ok_getI dX4_copy_58 f_X4_237 (is_sh hv hs) rfl ?_
  refine ok_aload_n dX4_copy_61 rfl rfl ?_
  refine ok_getR dX4_copy_62 f_X4_39 (by first | exact is_lit hv (by decide) rfl | exact is_sq hv hq | exact is_row hv hq | exact is_pn hv hq (by assumption) | assumption) rfl (by first | exact rf hv rfl | exact rf_row hv hq | assumption) ?_
  refine ok_iload_n dX4_copy_65 rfl rfl ?_
  refine ok_aaloadS dX4_copy_66 (is_lit hv (by decide) rfl) (in_4 ht) (rf_sh hv ht) ?_
  refine ok_getI dX4_copy_67 f_X4_237 (is_sh hv ht) rfl ?_
  refine ok_icmp_eq (tgt := 80) dX4_copy_70 (by decide) (fun _ => ?_) (fun c9 => absurd hk c9)
  refine ok_aload_n dX4_copy_80 rfl rfl ?_
  refine ok_getR dX4_copy_81 f_X4_39 (by first | exact is_lit hv (by decide) rfl | exact is_sq hv hq | exact is_row hv hq | exact is_pn hv hq (by assumption) | assumption) rfl (by first | exact rf hv rfl | exact rf_row hv hq | assumption) ?_
  refine ok_iload_n dX4_copy_84 rfl rfl ?_
  refine ok_aaloadS dX4_copy_85 (is_lit hv (by decide) rfl) (in_4 hs) (rf_sh hv hs) ?_
  refine ok_iload_n dX4_copy_86 rfl rfl ?_
  refine ok_iload dX4_copy_87 rfl ?_
  refine ok_callV (M' := mX1_hasPart) (b' := (0, 0)) (As := [_, _]) (cx := 1) dX4_copy_89 iX1_hasPart w_717 (by decide) rfl (is_sh hv hs) rfl (Nat.le_of_ble_eq_true rfl) ⟨Nat.le_of_ble_eq_true rfl, Nat.le_of_ble_eq_true rfl⟩ (Nat.le_of_ble_eq_true rfl) rfl rfl ?_
  refine sp_X1_hasPart (is_sh hv hs) _ _ ?_
  rw [hp]
  refine ok_if_eq (tgt := 111) dX4_copy_92 (by decide) (fun c9 => absurd c9 (by decide)) (fun _ => ?_)
  refine ok_aload_n dX4_copy_95 rfl rfl ?_
  refine ok_getR dX4_copy_96 f_X4_39 (by first | exact is_lit hv (by decide) rfl | exact is_sq hv hq | exact is_row hv hq | exact is_pn hv hq (by assumption) | assumption) rfl (by first | exact rf hv rfl | exact rf_row hv hq | assumption) ?_
  refine ok_iload_n dX4_copy_99 rfl rfl ?_
  refine ok_aaloadS dX4_copy_100 (is_lit hv (by decide) rfl) (in_4 ht) (rf_sh hv ht) ?_
  refine ok_iload dX4_copy_101 rfl ?_
  refine ok_iload dX4_copy_103 rfl ?_
  refine ok_callV (M' := mX1_hasPart) (b' := (0, 0)) (As := [_, _]) (cx := 1) dX4_copy_105 iX1_hasPart w_717 (by decide) rfl (is_sh hv ht) rfl (Nat.le_of_ble_eq_true rfl) ⟨Nat.le_of_ble_eq_true rfl, Nat.le_of_ble_eq_true rfl⟩ (Nat.le_of_ble_eq_true rfl) rfl rfl ?_
  refine sp_X1_hasPart (is_sh hv ht) _ _ ?_
  rw [hq]
  refine ok_if_ne (tgt := 118) dX4_copy_108 (by decide) (fun c9 => absurd c9 (fun c => c rfl)) (fun _ => ?_)
  refine ok_aload_n dX4_copy_111 rfl rfl ?_
  refine ok_ldc dX4_copy_112 w_253 ?_
  refine ok_callV (M' := mX4_finding) (b' := (0, 0)) (As := [_]) (cx := 4) dX4_copy_114 iX4_finding w_254 (by decide) rfl (by first | exact is_lit hv (by decide) rfl | exact is_sq hv hq | exact is_row hv hq | exact is_pn hv hq (by assumption) | assumption) rfl (Nat.le_of_ble_eq_true rfl) ⟨Nat.le_of_ble_eq_true rfl, Nat.le_of_ble_eq_true rfl⟩ (Nat.le_of_ble_eq_true rfl) rfl rfl ?_
  refine sp_X4_finding hv (k := 0) (by decide) (by decide) ?_
  refine ok_ireturn dX4_copy_117 rfl rfl ?_
  first | exact K | (simp only [↓reduceIte] at K; exact K)
theorem sp_X4_copy {g : GG} {h : Hp} {Post : Option Value → Hp → Prop} (hv : Inv h) {s : Nat} (hs : s < 4) {t : Nat} (ht : t < 4) {f o n zs zt : Nat} (hm : ¬ hI h (41 + 2 * s) 0 = 0) (hm2 : ¬ hI h (41 + 2 * t) 0 = 0) (hk : hI h (41 + 2 * s) 0 = hI h (41 + 2 * t) 0) (e1 : hI h (41 + 2 * s) 1 = nI zs) (e2 : hI h (41 + 2 * t) 1 = nI zt) (l1 : zs ≤ 40) (l2 : zt ≤ 40) (hp : f + n ≤ zs) (hq : o + n ≤ zt) (K : Post (some (.int (nI n))) (cpL h (42 + 2 * s) f (42 + 2 * t) o n)) : Sp g mX4_copy [.ref 0, .int (nI s), .int (nI f), .int (nI t), .int (nI o), .int (nI n)] h Post := by
  show Go g mX4_copy 0 [_, _, _, _, _, _] [] _ _ _
  refine ok_iload_n dX4_copy_0 rfl rfl ?_
  refine ok_callS (M' := mX4_isSheet) (b' := (0, 0)) (As := [_]) dX4_copy_1 iX4_isSheet w_686 rfl (Nat.le_of_ble_eq_true rfl) ⟨Nat.le_of_ble_eq_true rfl, Nat.le_of_ble_eq_true rfl⟩ (Nat.le_of_ble_eq_true rfl) rfl rfl ?_
  refine sp_X4_isSheet _ ?_
  rw [ss_ok hs]
  refine ok_if_eq (tgt := 14) dX4_copy_4 (by decide) (fun c9 => absurd c9 (by decide)) (fun _ => ?_)
  refine ok_iload_n dX4_copy_7 rfl rfl ?_
  refine ok_callS (M' := mX4_isSheet) (b' := (0, 0)) (As := [_]) dX4_copy_8 iX4_isSheet w_686 rfl (Nat.le_of_ble_eq_true rfl) ⟨Nat.le_of_ble_eq_true rfl, Nat.le_of_ble_eq_true rfl⟩ (Nat.le_of_ble_eq_true rfl) rfl rfl ?_
  refine sp_X4_isSheet _ ?_
  rw [ss_ok ht]
  refine ok_if_ne (tgt := 21) dX4_copy_11 (by decide) (fun _ => ?_) (fun c9 => absurd c9 (by decide))
  refine ok_aload_n dX4_copy_21 rfl rfl ?_
  refine ok_getR dX4_copy_22 f_X4_39 (by first | exact is_lit hv (by decide) rfl | exact is_sq hv hq | exact is_row hv hq | exact is_pn hv hq (by assumption) | assumption) rfl (by first | exact rf hv rfl | exact rf_row hv hq | assumption) ?_
  refine ok_iload_n dX4_copy_25 rfl rfl ?_
  refine ok_aaloadS dX4_copy_26 (is_lit hv (by decide) rfl) (in_4 hs) (rf_sh hv hs) ?_
  refine ok_callV (M' := mX1_isMissing) (b' := (0, 0)) (As := []) (cx := 1) dX4_copy_27 iX1_isMissing w_700 (by decide) rfl (is_sh hv hs) rfl (Nat.le_of_ble_eq_true rfl) ⟨Nat.le_of_ble_eq_true rfl, Nat.le_of_ble_eq_true rfl⟩ (Nat.le_of_ble_eq_true rfl) rfl rfl ?_
  refine sp_X1_isMissing (is_sh hv hs) ?_
  rw [if_neg hm]
  refine ok_if_ne (tgt := 45) dX4_copy_30 (by decide) (fun c9 => absurd c9 (fun c => c rfl)) (fun _ => ?_)
  refine ok_aload_n dX4_copy_33 rfl rfl ?_
  refine ok_getR dX4_copy_34 f_X4_39 (by first | exact is_lit hv (by decide) rfl | exact is_sq hv hq | exact is_row hv hq | exact is_pn hv hq (by assumption) | assumption) rfl (by first | exact rf hv rfl | exact rf_row hv hq | assumption) ?_
  refine ok_iload_n dX4_copy_37 rfl rfl ?_
  refine ok_aaloadS dX4_copy_38 (is_lit hv (by decide) rfl) (in_4 ht) (rf_sh hv ht) ?_
  refine ok_callV (M' := mX1_isMissing) (b' := (0, 0)) (As := []) (cx := 1) dX4_copy_39 iX1_isMissing w_700 (by decide) rfl (is_sh hv ht) rfl (Nat.le_of_ble_eq_true rfl) ⟨Nat.le_of_ble_eq_true rfl, Nat.le_of_ble_eq_true rfl⟩ (Nat.le_of_ble_eq_true rfl) rfl rfl ?_
  refine sp_X1_isMissing (is_sh hv ht) ?_
  rw [if_neg hm2]
  refine ok_if_eq (tgt := 52) dX4_copy_42 (by decide) (fun _ => ?_) (fun c9 => absurd rfl c9)
  refine ok_aload_n dX4_copy_52 rfl rfl ?_
  refine ok_getR dX4_copy_53 f_X4_39 (by first | exact is_lit hv (by decide) rfl | exact is_sq hv hq | exact is_row hv hq | exact is_pn hv hq (by assumption) | assumption) rfl (by first | exact rf hv rfl | exact rf_row hv hq | assumption) ?_
  refine ok_iload_n dX4_copy_56 rfl rfl ?_
  refine ok_aaloadS dX4_copy_57 (is_lit hv (by decide) rfl) (in_4 hs) (rf_sh hv hs) ?_
  refine ok_getI dX4_copy_58 f_X4_237 (is_sh hv hs) rfl ?_
  refine ok_aload_n dX4_copy_61 rfl rfl ?_
  refine ok_getR dX4_copy_62 f_X4_39 (by first | exact is_lit hv (by decide) rfl | exact is_sq hv hq | exact is_row hv hq | exact is_pn hv hq (by assumption) | assumption) rfl (by first | exact rf hv rfl | exact rf_row hv hq | assumption) ?_
  refine ok_iload_n dX4_copy_65 rfl rfl ?_
  refine ok_aaloadS dX4_copy_66 (is_lit hv (by decide) rfl) (in_4 ht) (rf_sh hv ht) ?_
  refine ok_getI dX4_copy_67 f_X4_237 (is_sh hv ht) rfl ?_
  refine ok_icmp_eq (tgt := 80) dX4_copy_70 (by decide) (fun _ => ?_) (fun c9 => absurd hk c9)
  refine ok_aload_n dX4_copy_80 rfl rfl ?_
  refine ok_getR dX4_copy_81 f_X4_39 (by first | exact is_lit hv (by decide) rfl | exact is_sq hv hq | exact is_row hv hq | exact is_pn hv hq (by assumption) | assumption) rfl (by first | exact rf hv rfl | exact rf_row hv hq | assumption) ?_
  refine ok_iload_n dX4_copy_84 rfl rfl ?_
  refine ok_aaloadS dX4_copy_85 (is_lit hv (by decide) rfl) (in_4 hs) (rf_sh hv hs) ?_
  refine ok_iload_n dX4_copy_86 rfl rfl ?_
  refine ok_iload dX4_copy_87 rfl ?_
  refine ok_callV (M' := mX1_hasPart) (b' := (0, 0)) (As := [_, _]) (cx := 1) dX4_copy_89 iX1_hasPart w_717 (by decide) rfl (is_sh hv hs) rfl (Nat.le_of_ble_eq_true rfl) ⟨Nat.le_of_ble_eq_true rfl, Nat.le_of_ble_eq_true rfl⟩ (Nat.le_of_ble_eq_true rfl) rfl rfl ?_
  refine sp_X1_hasPart (is_sh hv hs) _ _ ?_
  rw [e1, part_ok l1 hp]
  refine ok_if_eq (tgt := 111) dX4_copy_92 (by decide) (fun c9 => absurd c9 (by decide)) (fun _ => ?_)
  refine ok_aload_n dX4_copy_95 rfl rfl ?_
  refine ok_getR dX4_copy_96 f_X4_39 (by first | exact is_lit hv (by decide) rfl | exact is_sq hv hq | exact is_row hv hq | exact is_pn hv hq (by assumption) | assumption) rfl (by first | exact rf hv rfl | exact rf_row hv hq | assumption) ?_
  refine ok_iload_n dX4_copy_99 rfl rfl ?_
  refine ok_aaloadS dX4_copy_100 (is_lit hv (by decide) rfl) (in_4 ht) (rf_sh hv ht) ?_
  refine ok_iload dX4_copy_101 rfl ?_
  refine ok_iload dX4_copy_103 rfl ?_
  refine ok_callV (M' := mX1_hasPart) (b' := (0, 0)) (As := [_, _]) (cx := 1) dX4_copy_105 iX1_hasPart w_717 (by decide) rfl (is_sh hv ht) rfl (Nat.le_of_ble_eq_true rfl) ⟨Nat.le_of_ble_eq_true rfl, Nat.le_of_ble_eq_true rfl⟩ (Nat.le_of_ble_eq_true rfl) rfl rfl ?_
  refine sp_X1_hasPart (is_sh hv ht) _ _ ?_
  rw [e2, part_ok l2 hq]
  refine ok_if_ne (tgt := 118) dX4_copy_108 (by decide) (fun _ => ?_) (fun c9 => absurd c9 (by decide))
  refine ok_aload_n dX4_copy_118 rfl rfl ?_
  refine ok_getR dX4_copy_119 f_X4_39 (by first | exact is_lit hv (by decide) rfl | exact is_sq hv hq | exact is_row hv hq | exact is_pn hv hq (by assumption) | assumption) rfl (by first | exact rf hv rfl | exact rf_row hv hq | assumption) ?_
  refine ok_iload_n dX4_copy_122 rfl rfl ?_
  refine ok_aaloadS dX4_copy_123 (is_lit hv (by decide) rfl) (in_4 hs) (rf_sh hv hs) ?_
  refine ok_getR dX4_copy_124 f_X4_229 (is_sh hv hs) rfl (rf_sn hv hs) ?_
  refine ok_iload_n dX4_copy_127 rfl rfl ?_
  refine ok_aload_n dX4_copy_128 rfl rfl ?_
  refine ok_getR dX4_copy_129 f_X4_39 (by first | exact is_lit hv (by decide) rfl | exact is_sq hv hq | exact is_row hv hq | exact is_pn hv hq (by assumption) | assumption) rfl (by first | exact rf hv rfl | exact rf_row hv hq | assumption) ?_
  refine ok_iload_n dX4_copy_132 rfl rfl ?_
  refine ok_aaloadS dX4_copy_133 (is_lit hv (by decide) rfl) (in_4 ht) (rf_sh hv ht) ?_
  refine ok_getR dX4_copy_134 f_X4_229 (is_sh hv ht) rfl (rf_sn hv ht) ?_
  refine ok_iload dX4_copy_137 rfl ?_
  refine ok_iload dX4_copy_139 rfl ?_
  refine ok_copyL (a0 := 42 + 2 * s) (a := 42 + 2 * t) dX4_copy_141 w_721 w_723 w_722 w_77 (is_sn hv hs) (is_sn hv ht) (nI_pos (by omega)) (nI_pos (by omega)) (nI_pos (by omega)) (by rw [nI_clamp (by omega), nI_clamp (by omega)]; omega) (by rw [nI_clamp (by omega), nI_clamp (by omega)]; omega) (Nat.le_of_ble_eq_true rfl) (by decide) ?_
  rw [nI_clamp (by omega), nI_clamp (by omega), nI_clamp (by omega)]
  refine ok_iload dX4_copy_144 rfl ?_
  refine ok_ireturn dX4_copy_146 rfl rfl ?_
  first | exact K | (simp only [↓reduceIte] at K; exact K)
def w_lays (r : Nat → Int32) (L : Nat → Int64) : Nat → Nat → Int32
  | 0 => r
  | i + 1 => if L i < 0 then w_lays r L i else if 999 < L i then w_lays r L i else w_set (w_lays r L i) (7 + 7 * i + 1) (L i).toInt32
def w_came (L : Nat → Int64) : Nat → Int32
  | 0 => 0
  | i + 1 => if L i < 0 then w_came L i else if 999 < L i then w_came L i else w_came L i + 1
theorem cut_nI {a b : Nat} (ha : a ≤ 40) (hb : b ≤ 40) : (if nI b < nI a then nI b else nI a) = nI (min a b) := by
  have ea : (nI a).toInt = a := nI_toInt (by omega)
  have eb : (nI b).toInt = b := nI_toInt (by omega)
  split
  · rename_i h
    rw [i_lt] at h
    rw [show min a b = b by omega]
  · rename_i h
    rw [i_lt] at h
    rw [show min a b = a by omega]
theorem sp_X4_lays_b {g : GG} {h : Hp} {Post : Option Value → Hp → Prop} (hv : Inv h) (v : Int32) (hb : v < 0 ∨ 4 ≤ v) (K : Post (some (.int (-1000000001))) (hfi h 0)) : Sp g mX4_lays [.ref 0, .int v] h Post := by
  show Go g mX4_lays 0 [_, _, _, _, _, _, _] [] _ _ _
  refine ok_iload_n dX4_lays_0 rfl rfl ?_
  refine ok_callS (M' := mX4_isSheet) (b' := (0, 0)) (As := [_]) dX4_lays_1 iX4_isSheet w_686 rfl (Nat.le_of_ble_eq_true rfl) ⟨Nat.le_of_ble_eq_true rfl, Nat.le_of_ble_eq_true rfl⟩ (Nat.le_of_ble_eq_true rfl) rfl rfl ?_
  refine sp_X4_isSheet _ ?_
  rw [ss_bad hb]
  refine ok_if_ne (tgt := 14) dX4_lays_4 (by decide) (fun c9 => absurd c9 (fun c => c rfl)) (fun _ => ?_)
  refine ok_aload_n dX4_lays_7 rfl rfl ?_
  refine ok_ldc dX4_lays_8 w_253 ?_
  refine ok_callV (M' := mX4_finding) (b' := (0, 0)) (As := [_]) (cx := 4) dX4_lays_10 iX4_finding w_254 (by decide) rfl (by first | exact is_lit hv (by decide) rfl | exact is_sq hv hq | exact is_row hv hq | exact is_pn hv hq (by assumption) | assumption) rfl (Nat.le_of_ble_eq_true rfl) ⟨Nat.le_of_ble_eq_true rfl, Nat.le_of_ble_eq_true rfl⟩ (Nat.le_of_ble_eq_true rfl) rfl rfl ?_
  refine sp_X4_finding hv (k := 0) (by decide) (by decide) ?_
  refine ok_ireturn dX4_lays_13 rfl rfl ?_
  first | exact K | (simp only [↓reduceIte] at K; exact K)
theorem sp_X4_lays_m {g : GG} {h : Hp} {Post : Option Value → Hp → Prop} (hv : Inv h) {s : Nat} (hs : s < 4) (hm : hI h (41 + 2 * s) 0 = 0) (K : Post (some (.int (-1000000006))) (hfi h 5)) : Sp g mX4_lays [.ref 0, .int (nI s)] h Post := by
  show Go g mX4_lays 0 [_, _, _, _, _, _, _] [] _ _ _
  refine ok_iload_n dX4_lays_0 rfl rfl ?_
  refine ok_callS (M' := mX4_isSheet) (b' := (0, 0)) (As := [_]) dX4_lays_1 iX4_isSheet w_686 rfl (Nat.le_of_ble_eq_true rfl) ⟨Nat.le_of_ble_eq_true rfl, Nat.le_of_ble_eq_true rfl⟩ (Nat.le_of_ble_eq_true rfl) rfl rfl ?_
  refine sp_X4_isSheet _ ?_
  rw [ss_ok hs]
  refine ok_if_ne (tgt := 14) dX4_lays_4 (by decide) (fun _ => ?_) (fun c9 => absurd c9 (by decide))
  refine ok_aload_n dX4_lays_14 rfl rfl ?_
  refine ok_getR dX4_lays_15 f_X4_39 (by first | exact is_lit hv (by decide) rfl | exact is_sq hv hq | exact is_row hv hq | exact is_pn hv hq (by assumption) | assumption) rfl (by first | exact rf hv rfl | exact rf_row hv hq | assumption) ?_
  refine ok_iload_n dX4_lays_18 rfl rfl ?_
  refine ok_aaloadS dX4_lays_19 (is_lit hv (by decide) rfl) (in_4 hs) (rf_sh hv hs) ?_
  refine ok_callV (M' := mX1_isMissing) (b' := (0, 0)) (As := []) (cx := 1) dX4_lays_20 iX1_isMissing w_700 (by decide) rfl (is_sh hv hs) rfl (Nat.le_of_ble_eq_true rfl) ⟨Nat.le_of_ble_eq_true rfl, Nat.le_of_ble_eq_true rfl⟩ (Nat.le_of_ble_eq_true rfl) rfl rfl ?_
  refine sp_X1_isMissing (is_sh hv hs) ?_
  rw [if_pos hm]
  refine ok_if_eq (tgt := 33) dX4_lays_23 (by decide) (fun c9 => absurd c9 (by decide)) (fun _ => ?_)
  refine ok_aload_n dX4_lays_26 rfl rfl ?_
  refine ok_ldc dX4_lays_27 w_704 ?_
  refine ok_callV (M' := mX4_finding) (b' := (0, 0)) (As := [_]) (cx := 4) dX4_lays_29 iX4_finding w_254 (by decide) rfl (by first | exact is_lit hv (by decide) rfl | exact is_sq hv hq | exact is_row hv hq | exact is_pn hv hq (by assumption) | assumption) rfl (Nat.le_of_ble_eq_true rfl) ⟨Nat.le_of_ble_eq_true rfl, Nat.le_of_ble_eq_true rfl⟩ (Nat.le_of_ble_eq_true rfl) rfl rfl ?_
  refine sp_X4_finding hv (k := 5) (by decide) (by decide) ?_
  refine ok_ireturn dX4_lays_32 rfl rfl ?_
  first | exact K | (simp only [↓reduceIte] at K; exact K)
theorem sp_X4_book_b {g : GG} {h : Hp} {Post : Option Value → Hp → Prop} (hv : Inv h) (v : Int32) (hb : v < 0 ∨ 4 ≤ v) (K : Post (some (.int (-1000000001))) (hfi h 0)) : Sp g mX4_book [.ref 0, .int v] h Post := by
  show Go g mX4_book 0 [_, _, _] [] _ _ _
  refine ok_iload_n dX4_book_0 rfl rfl ?_
  refine ok_callS (M' := mX4_isSheet) (b' := (0, 0)) (As := [_]) dX4_book_1 iX4_isSheet w_686 rfl (Nat.le_of_ble_eq_true rfl) ⟨Nat.le_of_ble_eq_true rfl, Nat.le_of_ble_eq_true rfl⟩ (Nat.le_of_ble_eq_true rfl) rfl rfl ?_
  refine sp_X4_isSheet _ ?_
  rw [ss_bad hb]
  refine ok_if_ne (tgt := 14) dX4_book_4 (by decide) (fun c9 => absurd c9 (fun c => c rfl)) (fun _ => ?_)
  refine ok_aload_n dX4_book_7 rfl rfl ?_
  refine ok_ldc dX4_book_8 w_253 ?_
  refine ok_callV (M' := mX4_finding) (b' := (0, 0)) (As := [_]) (cx := 4) dX4_book_10 iX4_finding w_254 (by decide) rfl (by first | exact is_lit hv (by decide) rfl | exact is_sq hv hq | exact is_row hv hq | exact is_pn hv hq (by assumption) | assumption) rfl (Nat.le_of_ble_eq_true rfl) ⟨Nat.le_of_ble_eq_true rfl, Nat.le_of_ble_eq_true rfl⟩ (Nat.le_of_ble_eq_true rfl) rfl rfl ?_
  refine sp_X4_finding hv (k := 0) (by decide) (by decide) ?_
  refine ok_ireturn dX4_book_13 rfl rfl ?_
  first | exact K | (simp only [↓reduceIte] at K; exact K)
theorem sp_X4_book_m {g : GG} {h : Hp} {Post : Option Value → Hp → Prop} (hv : Inv h) {s : Nat} (hs : s < 4) (hm : hI h (41 + 2 * s) 0 = 0) (K : Post (some (.int (-1000000006))) (hfi h 5)) : Sp g mX4_book [.ref 0, .int (nI s)] h Post := by
  show Go g mX4_book 0 [_, _, _] [] _ _ _
  refine ok_iload_n dX4_book_0 rfl rfl ?_
  refine ok_callS (M' := mX4_isSheet) (b' := (0, 0)) (As := [_]) dX4_book_1 iX4_isSheet w_686 rfl (Nat.le_of_ble_eq_true rfl) ⟨Nat.le_of_ble_eq_true rfl, Nat.le_of_ble_eq_true rfl⟩ (Nat.le_of_ble_eq_true rfl) rfl rfl ?_
  refine sp_X4_isSheet _ ?_
  rw [ss_ok hs]
  refine ok_if_ne (tgt := 14) dX4_book_4 (by decide) (fun _ => ?_) (fun c9 => absurd c9 (by decide))
  refine ok_aload_n dX4_book_14 rfl rfl ?_
  refine ok_getR dX4_book_15 f_X4_39 (by first | exact is_lit hv (by decide) rfl | exact is_sq hv hq | exact is_row hv hq | exact is_pn hv hq (by assumption) | assumption) rfl (by first | exact rf hv rfl | exact rf_row hv hq | assumption) ?_
  refine ok_iload_n dX4_book_18 rfl rfl ?_
  refine ok_aaloadS dX4_book_19 (is_lit hv (by decide) rfl) (in_4 hs) (rf_sh hv hs) ?_
  refine ok_callV (M' := mX1_isMissing) (b' := (0, 0)) (As := []) (cx := 1) dX4_book_20 iX1_isMissing w_700 (by decide) rfl (is_sh hv hs) rfl (Nat.le_of_ble_eq_true rfl) ⟨Nat.le_of_ble_eq_true rfl, Nat.le_of_ble_eq_true rfl⟩ (Nat.le_of_ble_eq_true rfl) rfl rfl ?_
  refine sp_X1_isMissing (is_sh hv hs) ?_
  rw [if_pos hm]
  refine ok_if_eq (tgt := 33) dX4_book_23 (by decide) (fun c9 => absurd c9 (by decide)) (fun _ => ?_)
  refine ok_aload_n dX4_book_26 rfl rfl ?_
  refine ok_ldc dX4_book_27 w_704 ?_
  refine ok_callV (M' := mX4_finding) (b' := (0, 0)) (As := [_]) (cx := 4) dX4_book_29 iX4_finding w_254 (by decide) rfl (by first | exact is_lit hv (by decide) rfl | exact is_sq hv hq | exact is_row hv hq | exact is_pn hv hq (by assumption) | assumption) rfl (Nat.le_of_ble_eq_true rfl) ⟨Nat.le_of_ble_eq_true rfl, Nat.le_of_ble_eq_true rfl⟩ (Nat.le_of_ble_eq_true rfl) rfl rfl ?_
  refine sp_X4_finding hv (k := 5) (by decide) (by decide) ?_
  refine ok_ireturn dX4_book_32 rfl rfl ?_
  first | exact K | (simp only [↓reduceIte] at K; exact K)
theorem lp_X4_lays_58 {g : GG} {h0 : Hp} {Post : Option Value → Hp → Prop} {n : Nat} {r : Nat → Int32} (S0 : Hs h0 n r) {s : Nat} (hs : s < 4) {m : Nat} (hmn : m ≤ n) (K : ∀ h', FrI 2 h0 h' → Rep h' 2 n (w_lays r (hL h0 (42 + 2 * s)) m) → Post (some (.int (w_came (hL h0 (42 + 2 * s)) m))) h') : ∀ (k i : Nat) (h : Hp) (x5 x6 : Option Value), i + k = m → FrI 2 h0 h → Rep h 2 n (w_lays r (hL h0 (42 + 2 * s)) i) → Go g mX4_lays 58 [some (.ref 0), some (.int (nI s)), some (.int (w_came (hL h0 (42 + 2 * s)) i)), some (.int (nI m)), some (.int (nI i)), x5, x6] [] h (0, 0) Post := by
  intro k
  induction k with
  | zero =>
    intro i h x5 x6 hik F R
    obtain rfl : i = m := by omega
    have hv : Inv h := S0.1.of F.1
    have hn := R.1
    refine ok_iload dX4_lays_58 rfl ?_
    refine ok_iload_n dX4_lays_60 rfl rfl ?_
    refine ok_icmp_ge (tgt := 119) dX4_lays_61 (by decide) (fun _ => ?_) (fun c9 => absurd (nI_le (Nat.le_refl _) (by omega)) c9)
    refine ok_iload_n dX4_lays_119 rfl rfl ?_
    refine ok_ireturn dX4_lays_120 rfl rfl ?_
    exact K h F R
  | succ k ih =>
    intro i h x5 x6 hik F R
    have hi : i < m := by omega
    have hv : Inv h := S0.1.of F.1
    have hn := R.1
    have hq := s2
    have hi10 : i < 10 := by omega
    have eL : hL h = hL h0 := by rw [show hL h = h.2.1 from rfl, F.1]
    refine ok_iload dX4_lays_58 rfl ?_
    refine ok_iload_n dX4_lays_60 rfl rfl ?_
    refine ok_icmp_ge (tgt := 119) dX4_lays_61 (by decide) (fun c9 => absurd c9 (nI_ge hi (by omega))) (fun _ => ?_)
    refine ok_aload_n dX4_lays_64 rfl rfl ?_
    refine ok_getR dX4_lays_65 f_X4_39 (by first | exact is_lit hv (by decide) rfl | exact is_sq hv hq | exact is_row hv hq | exact is_pn hv hq (by assumption) | assumption) rfl (by first | exact rf hv rfl | exact rf_row hv hq | assumption) ?_
    refine ok_iload_n dX4_lays_68 rfl rfl ?_
    refine ok_aaloadS dX4_lays_69 (is_lit hv (by decide) rfl) (in_4 hs) (rf_sh hv hs) ?_
    refine ok_getR dX4_lays_70 f_X4_229 (is_sh hv hs) rfl (rf_sn hv hs) ?_
    refine ok_iload dX4_lays_73 rfl ?_
    refine ok_laload dX4_lays_75 (is_sn hv hs) (vp_in_nI (show i < 40 by omega) (by decide)) ?_
    rw [nI_clamp (by omega), eL]
    refine ok_lstore (lo' := [_, _, _, _, _, _, _]) dX4_lays_76 (Nat.le_of_ble_eq_true rfl) rfl rfl ?_
    refine ok_lload dX4_lays_78 rfl ?_
    refine ok_lconst (v := 0) dX4_lays_80 (by decide) ?_
    refine ok_lcmp dX4_lays_81 ?_
    refine ok_if_lt (tgt := 113) dX4_lays_82 (by decide) (fun c_82 => ?_) (fun c_82 => ?_)
    · refine ok_iinc (v := _ + 1) (lo' := [_, _, _, _, _, _, _]) dX4_lays_113 rfl rfl (Nat.le_of_ble_eq_true rfl) rfl rfl ?_
      refine ok_goto (tgt := 58) dX4_lays_116 (by decide) ?_
      rw [nI_1]
      have e := ih (i + 1)
      rw [w_lays, w_came] at e
      first
        | (rw [if_pos ((lg_cmp_lt _ _).mp c_82), if_pos ((lg_cmp_lt _ _).mp c_82)] at e; exact e h _ _ (by omega) F R)
        | (rw [if_neg (fun z => c_82 ((lg_cmp_lt _ _).mpr z)), if_neg (fun z => c_82 ((lg_cmp_lt _ _).mpr z))] at e
           first
             | (rw [if_pos ((lg_cmp_gt _ _).mp c_91), if_pos ((lg_cmp_gt _ _).mp c_91)] at e; exact e h _ _ (by omega) F R)
             | (rw [if_neg (fun z => c_91 ((lg_cmp_gt _ _).mpr z)), if_neg (fun z => c_91 ((lg_cmp_gt _ _).mpr z))] at e
                have hin := pn_in hv s2 hi10
                exact e _ _ _ (by omega) (F.u (by omega) (by omega)) (rep_uP hv s2 (by omega) (by decide) R)))
    · refine ok_lload dX4_lays_85 rfl ?_
      refine ok_ldc2 dX4_lays_87 w_728 ?_
      refine ok_lcmp dX4_lays_90 ?_
      refine ok_if_gt (tgt := 113) dX4_lays_91 (by decide) (fun c_91 => ?_) (fun c_91 => ?_)
      · refine ok_iinc (v := _ + 1) (lo' := [_, _, _, _, _, _, _]) dX4_lays_113 rfl rfl (Nat.le_of_ble_eq_true rfl) rfl rfl ?_
        refine ok_goto (tgt := 58) dX4_lays_116 (by decide) ?_
        rw [nI_1]
        have e := ih (i + 1)
        rw [w_lays, w_came] at e
        first
          | (rw [if_pos ((lg_cmp_lt _ _).mp c_82), if_pos ((lg_cmp_lt _ _).mp c_82)] at e; exact e h _ _ (by omega) F R)
          | (rw [if_neg (fun z => c_82 ((lg_cmp_lt _ _).mpr z)), if_neg (fun z => c_82 ((lg_cmp_lt _ _).mpr z))] at e
             first
               | (rw [if_pos ((lg_cmp_gt _ _).mp c_91), if_pos ((lg_cmp_gt _ _).mp c_91)] at e; exact e h _ _ (by omega) F R)
               | (rw [if_neg (fun z => c_91 ((lg_cmp_gt _ _).mpr z)), if_neg (fun z => c_91 ((lg_cmp_gt _ _).mpr z))] at e
                  have hin := pn_in hv s2 hi10
                  exact e _ _ _ (by omega) (F.u (by omega) (by omega)) (rep_uP hv s2 (by omega) (by decide) R)))
      · refine ok_aload_n dX4_lays_94 rfl rfl ?_
        refine ok_getR dX4_lays_95 f_X4_16 (by first | exact is_lit hv (by decide) rfl | exact is_sq hv hq | exact is_row hv hq | exact is_pn hv hq (by assumption) | assumption) rfl (by first | exact rf hv rfl | exact rf_row hv hq | assumption) ?_
        refine ok_getR dX4_lays_98 f_X4_64 (is_sq hv hq) rfl (rf_row hv hq) ?_
        refine ok_iload dX4_lays_101 rfl ?_
        refine ok_aaloadP dX4_lays_103 (is_row hv hq) (vp_in_nI hi10 (by decide)) (rf_nI hv hq hi10) ?_
        refine ok_lload dX4_lays_104 rfl ?_
        refine ok_l2i dX4_lays_106 ?_
        refine ok_putI dX4_lays_107 f_X4_73 (is_pn hv hq hi10) rfl rfl rfl rfl ?_
        refine ok_iinc (v := _ + 1) (lo' := [_, _, _, _, _, _, _]) dX4_lays_110 rfl rfl (Nat.le_of_ble_eq_true rfl) rfl rfl ?_
        refine ok_iinc (v := _ + 1) (lo' := [_, _, _, _, _, _, _]) dX4_lays_113 rfl rfl (Nat.le_of_ble_eq_true rfl) rfl rfl ?_
        refine ok_goto (tgt := 58) dX4_lays_116 (by decide) ?_
        rw [nI_1]
        have e := ih (i + 1)
        rw [w_lays, w_came] at e
        first
          | (rw [if_pos ((lg_cmp_lt _ _).mp c_82), if_pos ((lg_cmp_lt _ _).mp c_82)] at e; exact e h _ _ (by omega) F R)
          | (rw [if_neg (fun z => c_82 ((lg_cmp_lt _ _).mpr z)), if_neg (fun z => c_82 ((lg_cmp_lt _ _).mpr z))] at e
             first
               | (rw [if_pos ((lg_cmp_gt _ _).mp c_91), if_pos ((lg_cmp_gt _ _).mp c_91)] at e; exact e h _ _ (by omega) F R)
               | (rw [if_neg (fun z => c_91 ((lg_cmp_gt _ _).mpr z)), if_neg (fun z => c_91 ((lg_cmp_gt _ _).mpr z))] at e
                  have hin := pn_in hv s2 hi10
                  exact e _ _ _ (by omega) (F.u (by omega) (by omega)) (rep_uP hv s2 (by omega) (by decide) R)))
theorem sp_X4_lays {g : GG} {h : Hp} {Post : Option Value → Hp → Prop} {n : Nat} {r : Nat → Int32} (S : Hs h n r) {s : Nat} (hs : s < 4) (hm : ¬ hI h (41 + 2 * s) 0 = 0) {z : Nat} (hz : z ≤ 40) (ez : hI h (41 + 2 * s) 1 = nI z) (K : ∀ h', FrI 2 h h' → Rep h' 2 n (w_lays r (hL h (42 + 2 * s)) (min z n)) → Post (some (.int (w_came (hL h (42 + 2 * s)) (min z n)))) h') : Sp g mX4_lays [.ref 0, .int (nI s)] h Post := by
  show Go g mX4_lays 0 [_, _, _, _, _, _, _] [] _ _ _
  have hv := S.1
  have hn := S.2.2.1
  have h6 := S.2.1.2.2.1
  have hq := s2
  refine ok_iload_n dX4_lays_0 rfl rfl ?_
  refine ok_callS (M' := mX4_isSheet) (b' := (0, 0)) (As := [_]) dX4_lays_1 iX4_isSheet w_686 rfl (Nat.le_of_ble_eq_true rfl) ⟨Nat.le_of_ble_eq_true rfl, Nat.le_of_ble_eq_true rfl⟩ (Nat.le_of_ble_eq_true rfl) rfl rfl ?_
  refine sp_X4_isSheet _ ?_
  rw [ss_ok hs]
  refine ok_if_ne (tgt := 14) dX4_lays_4 (by decide) (fun _ => ?_) (fun c9 => absurd c9 (by decide))
  refine ok_aload_n dX4_lays_14 rfl rfl ?_
  refine ok_getR dX4_lays_15 f_X4_39 (by first | exact is_lit hv (by decide) rfl | exact is_sq hv hq | exact is_row hv hq | exact is_pn hv hq (by assumption) | assumption) rfl (by first | exact rf hv rfl | exact rf_row hv hq | assumption) ?_
  refine ok_iload_n dX4_lays_18 rfl rfl ?_
  refine ok_aaloadS dX4_lays_19 (is_lit hv (by decide) rfl) (in_4 hs) (rf_sh hv hs) ?_
  refine ok_callV (M' := mX1_isMissing) (b' := (0, 0)) (As := []) (cx := 1) dX4_lays_20 iX1_isMissing w_700 (by decide) rfl (is_sh hv hs) rfl (Nat.le_of_ble_eq_true rfl) ⟨Nat.le_of_ble_eq_true rfl, Nat.le_of_ble_eq_true rfl⟩ (Nat.le_of_ble_eq_true rfl) rfl rfl ?_
  refine sp_X1_isMissing (is_sh hv hs) ?_
  rw [if_neg hm]
  refine ok_if_eq (tgt := 33) dX4_lays_23 (by decide) (fun _ => ?_) (fun c9 => absurd rfl c9)
  refine ok_iconst (v := 0) dX4_lays_33 (by decide) ?_
  refine ok_istore_n (lo' := [_, _, _, _, _, _, _]) dX4_lays_34 rfl (Nat.le_of_ble_eq_true rfl) rfl rfl ?_
  refine ok_aload_n dX4_lays_35 rfl rfl ?_
  refine ok_getR dX4_lays_36 f_X4_39 (by first | exact is_lit hv (by decide) rfl | exact is_sq hv hq | exact is_row hv hq | exact is_pn hv hq (by assumption) | assumption) rfl (by first | exact rf hv rfl | exact rf_row hv hq | assumption) ?_
  refine ok_iload_n dX4_lays_39 rfl rfl ?_
  refine ok_aaloadS dX4_lays_40 (is_lit hv (by decide) rfl) (in_4 hs) (rf_sh hv hs) ?_
  refine ok_getI dX4_lays_41 f_X4_223 (is_sh hv hs) rfl ?_
  refine ok_aload_n dX4_lays_44 rfl rfl ?_
  refine ok_getR dX4_lays_45 f_X4_16 (by first | exact is_lit hv (by decide) rfl | exact is_sq hv hq | exact is_row hv hq | exact is_pn hv hq (by assumption) | assumption) rfl (by first | exact rf hv rfl | exact rf_row hv hq | assumption) ?_
  refine ok_getI dX4_lays_48 f_X4_53 (by first | exact is_lit hv (by decide) rfl | exact is_sq hv hq | exact is_row hv hq | exact is_pn hv hq (by assumption) | assumption) rfl ?_
  rw [h6, ez]
  refine ok_min dX4_lays_51 w_467 w_293 w_71 w_294 (Nat.le_of_ble_eq_true rfl) (Nat.le_of_ble_eq_true rfl) ?_
  rw [cut_nI hz (by omega)]
  refine ok_istore_n (lo' := [_, _, _, _, _, _, _]) dX4_lays_54 rfl (Nat.le_of_ble_eq_true rfl) rfl rfl ?_
  refine ok_iconst (v := 0) dX4_lays_55 (by decide) ?_
  refine ok_istore (lo' := [_, _, _, _, _, _, _]) dX4_lays_56 (Nat.le_of_ble_eq_true rfl) rfl rfl ?_
  exact lp_X4_lays_58 S hs (by omega) K (min z n) 0 h _ _ (by omega) FrI.rf S.2.1
theorem sp_X4_book_s {g : GG} {h : Hp} {Post : Option Value → Hp → Prop} {n : Nat} {r : Nat → Int32} (S : Hs h n r) {s : Nat} (hs : s < 4) (hm : ¬ hI h (41 + 2 * s) 0 = 0) (hh : ¬ r 5 ≤ 9959) (K : Post (some (.int (-1000000005))) (hfi h 4)) : Sp g mX4_book [.ref 0, .int (nI s)] h Post := by
  show Go g mX4_book 0 [_, _, _] [] _ _ _
  have hv := S.1
  have hn := S.2.2.1
  have h6 := S.2.1.2.2.1
  have hq := s2
  refine ok_iload_n dX4_book_0 rfl rfl ?_
  refine ok_callS (M' := mX4_isSheet) (b' := (0, 0)) (As := [_]) dX4_book_1 iX4_isSheet w_686 rfl (Nat.le_of_ble_eq_true rfl) ⟨Nat.le_of_ble_eq_true rfl, Nat.le_of_ble_eq_true rfl⟩ (Nat.le_of_ble_eq_true rfl) rfl rfl ?_
  refine sp_X4_isSheet _ ?_
  rw [ss_ok hs]
  refine ok_if_ne (tgt := 14) dX4_book_4 (by decide) (fun _ => ?_) (fun c9 => absurd c9 (by decide))
  refine ok_aload_n dX4_book_14 rfl rfl ?_
  refine ok_getR dX4_book_15 f_X4_39 (by first | exact is_lit hv (by decide) rfl | exact is_sq hv hq | exact is_row hv hq | exact is_pn hv hq (by assumption) | assumption) rfl (by first | exact rf hv rfl | exact rf_row hv hq | assumption) ?_
  refine ok_iload_n dX4_book_18 rfl rfl ?_
  refine ok_aaloadS dX4_book_19 (is_lit hv (by decide) rfl) (in_4 hs) (rf_sh hv hs) ?_
  refine ok_callV (M' := mX1_isMissing) (b' := (0, 0)) (As := []) (cx := 1) dX4_book_20 iX1_isMissing w_700 (by decide) rfl (is_sh hv hs) rfl (Nat.le_of_ble_eq_true rfl) ⟨Nat.le_of_ble_eq_true rfl, Nat.le_of_ble_eq_true rfl⟩ (Nat.le_of_ble_eq_true rfl) rfl rfl ?_
  refine sp_X1_isMissing (is_sh hv hs) ?_
  rw [if_neg hm]
  refine ok_if_eq (tgt := 33) dX4_book_23 (by decide) (fun _ => ?_) (fun c9 => absurd rfl c9)
  refine ok_aload_n dX4_book_33 rfl rfl ?_
  refine ok_getR dX4_book_34 f_X4_16 (by first | exact is_lit hv (by decide) rfl | exact is_sq hv hq | exact is_row hv hq | exact is_pn hv hq (by assumption) | assumption) rfl (by first | exact rf hv rfl | exact rf_row hv hq | assumption) ?_
  refine ok_getI dX4_book_37 f_X4_143 (by first | exact is_lit hv (by decide) rfl | exact is_sq hv hq | exact is_row hv hq | exact is_pn hv hq (by assumption) | assumption) rfl ?_
  refine ok_sipush (v := 9959) dX4_book_40 (by decide) ?_
  rw [S.2.1.2.2.2.1 4 (by decide)]
  refine ok_icmp_le (tgt := 53) dX4_book_43 (by decide) (fun c9 => absurd c9 hh) (fun _ => ?_)
  refine ok_aload_n dX4_book_46 rfl rfl ?_
  refine ok_ldc dX4_book_47 w_362 ?_
  refine ok_callV (M' := mX4_finding) (b' := (0, 0)) (As := [_]) (cx := 4) dX4_book_49 iX4_finding w_254 (by decide) rfl (by first | exact is_lit hv (by decide) rfl | exact is_sq hv hq | exact is_row hv hq | exact is_pn hv hq (by assumption) | assumption) rfl (Nat.le_of_ble_eq_true rfl) ⟨Nat.le_of_ble_eq_true rfl, Nat.le_of_ble_eq_true rfl⟩ (Nat.le_of_ble_eq_true rfl) rfl rfl ?_
  refine sp_X4_finding hv (k := 4) (by decide) (by decide) ?_
  refine ok_ireturn dX4_book_52 rfl rfl ?_
  first | exact K | (simp only [↓reduceIte] at K; exact K)
/-- a sheet booked so far -/
def Bk (s i : Nat) (v : Nat → Int64) (h0 h : Hp) : Prop := (∀ a, (a < 14 ∨ 26 ≤ a) → h.1 a = h0.1 a) ∧ h.2.2 = h0.2.2 ∧ ∀ q j, hL h q j = if q = 42 + 2 * s ∧ j < i then v j else hL h0 q j
theorem Bk.next {s i : Nat} {v : Nat → Int64} {h0 h h2 : Hp} (B : Bk s i v h0 h) (F : FrI 14 h h2) : Bk s (i + 1) v h0 (uL h2 (42 + 2 * s) i (v i)) := by
  refine ⟨fun a ha => (F.2 a ha).trans (B.1 a ha), by show h2.2.2 = _; rw [F.1]; exact B.2.1, fun q j => ?_⟩
  show (if q = 42 + 2 * s ∧ j = i then v i else hL h2 q j) = _
  rw [show hL h2 = hL h from congrArg Prod.fst F.1]
  by_cases e : q = 42 + 2 * s ∧ j = i
  · rw [if_pos e, if_pos ⟨e.1, by omega⟩, e.2]
  · rw [if_neg e, B.2.2]
    by_cases e2 : q = 42 + 2 * s ∧ j < i
    · rw [if_pos e2, if_pos ⟨e2.1, by omega⟩]
    · rw [if_neg e2, if_neg (by omega)]
theorem lp_X4_book_66 {g : GG} {h0 : Hp} {Post : Option Value → Hp → Prop} {n : Nat} {r : Nat → Int32} (S0 : Hs h0 n r) {s : Nat} (hs : s < 4) (hb : Wb (hI h0 (41 + 2 * s) 0)) {m : Nat} (hm : m ≤ 40) (ez : hI h0 (41 + 2 * s) 1 = nI m) (K : ∀ h', Bk s m (fun j => w_nar (hI h0 (41 + 2 * s) 0) (w_hrs r n (j + 1) 6).toInt64) h0 h' → Post (some (.int (nI m))) h') : ∀ (k i : Nat) (h : Hp), i + k = m → Bk s i (fun j => w_nar (hI h0 (41 + 2 * s) 0) (w_hrs r n (j + 1) 6).toInt64) h0 h → Rep h 14 n (w_hrs r n i) → Go g mX4_book 66 [some (.ref 0), some (.int (nI s)), some (.int (nI i))] [] h (0, 0) Post := by
  intro k
  induction k with
  | zero =>
    intro i h hik B R
    obtain rfl : i = m := by omega
    have hv : Inv h := by show InvR h.2.2; rw [B.2.1]; exact S0.1
    have eb : hI h (41 + 2 * s) = hI h0 (41 + 2 * s) := B.1 _ (by omega)
    refine ok_iload_n dX4_book_66 rfl rfl ?_
    refine ok_aload_n dX4_book_67 rfl rfl ?_
    refine ok_getR dX4_book_68 f_X4_39 (by first | exact is_lit hv (by decide) rfl | exact is_sq hv hq | exact is_row hv hq | exact is_pn hv hq (by assumption) | assumption) rfl (by first | exact rf hv rfl | exact rf_row hv hq | assumption) ?_
    refine ok_iload_n dX4_book_71 rfl rfl ?_
    refine ok_aaloadS dX4_book_72 (is_lit hv (by decide) rfl) (in_4 hs) (rf_sh hv hs) ?_
    refine ok_getI dX4_book_73 f_X4_223 (is_sh hv hs) rfl ?_
    rw [eb, ez]
    refine ok_icmp_ge (tgt := 113) dX4_book_76 (by decide) (fun _ => ?_) (fun c9 => absurd (nI_le (Nat.le_refl _) (by omega)) c9)
    refine ok_aload_n dX4_book_113 rfl rfl ?_
    refine ok_getR dX4_book_114 f_X4_39 (by first | exact is_lit hv (by decide) rfl | exact is_sq hv hq | exact is_row hv hq | exact is_pn hv hq (by assumption) | assumption) rfl (by first | exact rf hv rfl | exact rf_row hv hq | assumption) ?_
    refine ok_iload_n dX4_book_117 rfl rfl ?_
    refine ok_aaloadS dX4_book_118 (is_lit hv (by decide) rfl) (in_4 hs) (rf_sh hv hs) ?_
    refine ok_getI dX4_book_119 f_X4_223 (is_sh hv hs) rfl ?_
    rw [eb, ez]
    refine ok_ireturn dX4_book_122 rfl rfl ?_
    exact K h B
  | succ k ih =>
    intro i h hik B R
    have hi : i < m := by omega
    have hv : Inv h := by show InvR h.2.2; rw [B.2.1]; exact S0.1
    have eb : hI h (41 + 2 * s) = hI h0 (41 + 2 * s) := B.1 _ (by omega)
    have G := S0.2.2.hrs i
    refine ok_iload_n dX4_book_66 rfl rfl ?_
    refine ok_aload_n dX4_book_67 rfl rfl ?_
    refine ok_getR dX4_book_68 f_X4_39 (by first | exact is_lit hv (by decide) rfl | exact is_sq hv hq | exact is_row hv hq | exact is_pn hv hq (by assumption) | assumption) rfl (by first | exact rf hv rfl | exact rf_row hv hq | assumption) ?_
    refine ok_iload_n dX4_book_71 rfl rfl ?_
    refine ok_aaloadS dX4_book_72 (is_lit hv (by decide) rfl) (in_4 hs) (rf_sh hv hs) ?_
    refine ok_getI dX4_book_73 f_X4_223 (is_sh hv hs) rfl ?_
    rw [eb, ez]
    refine ok_icmp_ge (tgt := 113) dX4_book_76 (by decide) (fun c9 => absurd c9 (nI_ge hi (by omega))) (fun _ => ?_)
    refine ok_aload_n dX4_book_79 rfl rfl ?_
    refine ok_getR dX4_book_80 f_X4_20 (by first | exact is_lit hv (by decide) rfl | exact is_sq hv hq | exact is_row hv hq | exact is_pn hv hq (by assumption) | assumption) rfl (by first | exact rf hv rfl | exact rf_row hv hq | assumption) ?_
    refine ok_iconst (v := -1) dX4_book_83 (by decide) ?_
    refine ok_iconst (v := 0) dX4_book_84 (by decide) ?_
    refine ok_callV (M' := mX2_passHour) (b' := (0, 0)) (As := [_, _]) (cx := 2) dX4_book_85 iX2_passHour w_363 (by decide) rfl (by first | exact is_lit hv (by decide) rfl | exact is_sq hv hq | exact is_row hv hq | exact is_pn hv hq (by assumption) | assumption) rfl (Nat.le_of_ble_eq_true rfl) ⟨Nat.le_of_ble_eq_true rfl, Nat.le_of_ble_eq_true rfl⟩ (Nat.le_of_ble_eq_true rfl) rfl rfl ?_
    refine sp_X2_passHour hv s14 R G.kd G.2.2.1 _ _ (fun h2 F2 R2 => ?_)
    have hv2 : Inv h2 := hv.of F2.1
    have eb2 : hI h2 (41 + 2 * s) = hI h0 (41 + 2 * s) := (F2.2 _ (by omega)).trans eb
    have hv := hv2
    refine ok_pop dX4_book_88 rfl ?_
    refine ok_aload_n dX4_book_89 rfl rfl ?_
    refine ok_getR dX4_book_90 f_X4_39 (by first | exact is_lit hv (by decide) rfl | exact is_sq hv hq | exact is_row hv hq | exact is_pn hv hq (by assumption) | assumption) rfl (by first | exact rf hv rfl | exact rf_row hv hq | assumption) ?_
    refine ok_iload_n dX4_book_93 rfl rfl ?_
    refine ok_aaloadS dX4_book_94 (is_lit hv (by decide) rfl) (in_4 hs) (rf_sh hv hs) ?_
    refine ok_iload_n dX4_book_95 rfl rfl ?_
    refine ok_aload_n dX4_book_96 rfl rfl ?_
    refine ok_getR dX4_book_97 f_X4_20 (by first | exact is_lit hv (by decide) rfl | exact is_sq hv hq | exact is_row hv hq | exact is_pn hv hq (by assumption) | assumption) rfl (by first | exact rf hv rfl | exact rf_row hv hq | assumption) ?_
    refine ok_getI dX4_book_100 f_X4_153 (is_sq hv2 s14) rfl ?_
    rw [R2.2.2.2.1 5 (by decide)]
    refine ok_i2l dX4_book_103 ?_
    refine ok_callV (M' := mX1_put) (b' := (0, 0)) (As := [_, _]) (cx := 1) dX4_book_104 iX1_put w_705 (by decide) rfl (is_sh hv2 hs) rfl (Nat.le_of_ble_eq_true rfl) ⟨Nat.le_of_ble_eq_true rfl, Nat.le_of_ble_eq_true rfl⟩ (Nat.le_of_ble_eq_true rfl) rfl rfl ?_
    refine sp_X1_put hv2 hs (by rw [eb2]; exact hb) (show i < 40 by omega) _ ?_
    rw [eb2]
    refine ok_iinc (v := _ + 1) (lo' := [_, _, _]) dX4_book_107 rfl rfl (Nat.le_of_ble_eq_true rfl) rfl rfl ?_
    refine ok_goto (tgt := 66) dX4_book_110 (by decide) ?_
    rw [nI_1]
    exact ih (i + 1) _ (by omega) (B.next F2) R2
theorem sp_X4_book {g : GG} {h : Hp} {Post : Option Value → Hp → Prop} {n : Nat} {r : Nat → Int32} (S : Hs h n r) {s : Nat} (hs : s < 4) (hm : ¬ hI h (41 + 2 * s) 0 = 0) (hb : Wb (hI h (41 + 2 * s) 0)) {z : Nat} (hz : z ≤ 40) (ez : hI h (41 + 2 * s) 1 = nI z) (hh : r 5 ≤ 9959) (K : ∀ h', Bk s z (fun j => w_nar (hI h (41 + 2 * s) 0) (w_hrs r n (j + 1) 6).toInt64) h h' → Post (some (.int (nI z))) h') : Sp g mX4_book [.ref 0, .int (nI s)] h Post := by
  show Go g mX4_book 0 [_, _, _] [] _ _ _
  have hv := S.1
  have hn := S.2.2.1
  have h6 := S.2.1.2.2.1
  have hq := s2
  refine ok_iload_n dX4_book_0 rfl rfl ?_
  refine ok_callS (M' := mX4_isSheet) (b' := (0, 0)) (As := [_]) dX4_book_1 iX4_isSheet w_686 rfl (Nat.le_of_ble_eq_true rfl) ⟨Nat.le_of_ble_eq_true rfl, Nat.le_of_ble_eq_true rfl⟩ (Nat.le_of_ble_eq_true rfl) rfl rfl ?_
  refine sp_X4_isSheet _ ?_
  rw [ss_ok hs]
  refine ok_if_ne (tgt := 14) dX4_book_4 (by decide) (fun _ => ?_) (fun c9 => absurd c9 (by decide))
  refine ok_aload_n dX4_book_14 rfl rfl ?_
  refine ok_getR dX4_book_15 f_X4_39 (by first | exact is_lit hv (by decide) rfl | exact is_sq hv hq | exact is_row hv hq | exact is_pn hv hq (by assumption) | assumption) rfl (by first | exact rf hv rfl | exact rf_row hv hq | assumption) ?_
  refine ok_iload_n dX4_book_18 rfl rfl ?_
  refine ok_aaloadS dX4_book_19 (is_lit hv (by decide) rfl) (in_4 hs) (rf_sh hv hs) ?_
  refine ok_callV (M' := mX1_isMissing) (b' := (0, 0)) (As := []) (cx := 1) dX4_book_20 iX1_isMissing w_700 (by decide) rfl (is_sh hv hs) rfl (Nat.le_of_ble_eq_true rfl) ⟨Nat.le_of_ble_eq_true rfl, Nat.le_of_ble_eq_true rfl⟩ (Nat.le_of_ble_eq_true rfl) rfl rfl ?_
  refine sp_X1_isMissing (is_sh hv hs) ?_
  rw [if_neg hm]
  refine ok_if_eq (tgt := 33) dX4_book_23 (by decide) (fun _ => ?_) (fun c9 => absurd rfl c9)
  refine ok_aload_n dX4_book_33 rfl rfl ?_
  refine ok_getR dX4_book_34 f_X4_16 (by first | exact is_lit hv (by decide) rfl | exact is_sq hv hq | exact is_row hv hq | exact is_pn hv hq (by assumption) | assumption) rfl (by first | exact rf hv rfl | exact rf_row hv hq | assumption) ?_
  refine ok_getI dX4_book_37 f_X4_143 (by first | exact is_lit hv (by decide) rfl | exact is_sq hv hq | exact is_row hv hq | exact is_pn hv hq (by assumption) | assumption) rfl ?_
  refine ok_sipush (v := 9959) dX4_book_40 (by decide) ?_
  rw [S.2.1.2.2.2.1 4 (by decide)]
  refine ok_icmp_le (tgt := 53) dX4_book_43 (by decide) (fun _ => ?_) (fun c9 => absurd hh c9)
  refine ok_aload_n dX4_book_53 rfl rfl ?_
  refine ok_getR dX4_book_54 f_X4_20 (by first | exact is_lit hv (by decide) rfl | exact is_sq hv hq | exact is_row hv hq | exact is_pn hv hq (by assumption) | assumption) rfl (by first | exact rf hv rfl | exact rf_row hv hq | assumption) ?_
  refine ok_aload_n dX4_book_57 rfl rfl ?_
  refine ok_getR dX4_book_58 f_X4_16 (by first | exact is_lit hv (by decide) rfl | exact is_sq hv hq | exact is_row hv hq | exact is_pn hv hq (by assumption) | assumption) rfl (by first | exact rf hv rfl | exact rf_row hv hq | assumption) ?_
  refine ok_callV (M' := mX2_become) (b' := (0, 0)) (As := [_]) (cx := 2) dX4_book_61 iX2_become w_405 (by decide) rfl (by first | exact is_lit hv (by decide) rfl | exact is_sq hv hq | exact is_row hv hq | exact is_pn hv hq (by assumption) | assumption) rfl (Nat.le_of_ble_eq_true rfl) ⟨Nat.le_of_ble_eq_true rfl, Nat.le_of_ble_eq_true rfl⟩ (Nat.le_of_ble_eq_true rfl) rfl rfl ?_
  refine sp_X2_become (q := 14) (o := 2) (n := n) (r := r) S.1 s14 s2 (by decide) S.2.1 S.2.2.2.2.2.1 (fun h1 F1 R1 => ?_)
  refine ok_iconst (v := 0) dX4_book_64 (by decide) ?_
  refine ok_istore_n (lo' := [_, _, _]) dX4_book_65 rfl (Nat.le_of_ble_eq_true rfl) rfl rfl ?_
  exact lp_X4_book_66 S hs hb hz ez K z 0 h1 (by omega) ⟨fun a ha => F1.2 a (by omega), by rw [F1.1], fun q j => by rw [if_neg (by omega), show hL h1 = hL h from congrArg Prod.fst F1.1]⟩ R1
def w_ok1 (L : Nat → Int64) (b p : Nat) : Prop := (L p = 0 ∨ L p = 1) → L p = (nI (bt b p)).toInt64
noncomputable def w_agr (L : Nat → Int64) (m b : Nat) : Int32 := by classical exact if ∀ p, p < m → w_ok1 L b p then 1 else 0
theorem agr_1 {L : Nat → Int64} {m b : Nat} (h : ∀ p, p < m → w_ok1 L b p) : w_agr L m b = 1 := by unfold w_agr; exact if_pos h
theorem agr_0 {L : Nat → Int64} {m b : Nat} {p : Nat} (hp : p < m) (h : ¬ w_ok1 L b p) : w_agr L m b = 0 := by unfold w_agr; exact if_neg (fun z => h (z p hp))
noncomputable def w_ways (c : Int32) (L : Nat → Int64) (m : Nat) (k : Int32) : Nat → Int32
  | 0 => 0
  | b + 1 => if c + nI (popc b) = k then (if w_agr L m b = 0 then w_ways c L m k b else w_ways c L m k b + 1) else w_ways c L m k b
theorem lp_X4_agrees_18 {g : GG} {h : Hp} {Post : Option Value → Hp → Prop} (hv : Inv h) {s : Nat} (hs : s < 4) {m : Nat} (hm : m ≤ 10) {b : Nat} (hb : b < 1024) (K : Post (some (.int (w_agr (hL h (42 + 2 * s)) m b))) h) : ∀ (k i : Nat) (x5 x6 : Option Value), i + k = m → (∀ p, p < i → w_ok1 (hL h (42 + 2 * s)) b p) → Go g mX4_agrees 18 [some (.ref 0), some (.ref (41 + 2 * s)), some (.int (nI b)), some (.int (nI m)), some (.int (nI i)), x5, x6] [] h (0, 0) Post := by
  intro k
  induction k with
  | zero =>
    intro i x5 x6 hik A
    obtain rfl : i = m := by omega
    refine ok_iload dX4_agrees_18 rfl ?_
    refine ok_iload_n dX4_agrees_20 rfl rfl ?_
    refine ok_icmp_ge (tgt := 68) dX4_agrees_21 (by decide) (fun _ => ?_) (fun c9 => absurd (nI_le (Nat.le_refl _) (by omega)) c9)
    refine ok_iconst (v := 1) dX4_agrees_68 (by decide) ?_
    refine ok_ireturn dX4_agrees_69 rfl rfl ?_
    rw [agr_1 A] at K
    exact K
  | succ k ih =>
    intro i x5 x6 hik A
    have hi : i < m := by omega
    refine ok_iload dX4_agrees_18 rfl ?_
    refine ok_iload_n dX4_agrees_20 rfl rfl ?_
    refine ok_icmp_ge (tgt := 68) dX4_agrees_21 (by decide) (fun c9 => absurd c9 (nI_ge hi (by omega))) (fun _ => ?_)
    refine ok_aload_n dX4_agrees_24 rfl rfl ?_
    refine ok_getR dX4_agrees_25 f_X4_229 (is_sh hv hs) rfl (rf_sn hv hs) ?_
    refine ok_iload dX4_agrees_28 rfl ?_
    refine ok_laload dX4_agrees_30 (is_sn hv hs) (vp_in_nI (show i < 40 by omega) (by decide)) ?_
    rw [nI_clamp (by omega)]
    refine ok_lstore (lo' := [_, _, _, _, _, _, _]) dX4_agrees_31 (Nat.le_of_ble_eq_true rfl) rfl rfl ?_
    refine ok_lload dX4_agrees_33 rfl ?_
    refine ok_lconst (v := 0) dX4_agrees_35 (by decide) ?_
    refine ok_lcmp dX4_agrees_36 ?_
    refine ok_if_eq (tgt := 47) dX4_agrees_37 (by decide) (fun c_37 => ?_) (fun c_37 => ?_)
    · refine ok_lload dX4_agrees_47 rfl ?_
      refine ok_iload_n dX4_agrees_49 rfl rfl ?_
      refine ok_iload dX4_agrees_50 rfl ?_
      refine ok_ishr dX4_agrees_52 ?_
      refine ok_iconst (v := 1) dX4_agrees_53 (by decide) ?_
      refine ok_iand dX4_agrees_54 ?_
      rw [bt_of hb (show i < 10 by omega)]
      refine ok_i2l dX4_agrees_55 ?_
      refine ok_lcmp dX4_agrees_56 ?_
      refine ok_if_eq (tgt := 62) dX4_agrees_57 (by decide) (fun c_57 => ?_) (fun c_57 => ?_)
      · refine ok_iinc (v := _ + 1) (lo' := [_, _, _, _, _, _, _]) dX4_agrees_62 rfl rfl (Nat.le_of_ble_eq_true rfl) rfl rfl ?_
        refine ok_goto (tgt := 18) dX4_agrees_65 (by decide) ?_
        rw [nI_1]
        refine ih (i + 1) _ _ (by omega) (fun p hp => ?_)
        by_cases e : p = i
        · rw [e]
          first
            | exact fun _ => (lg_cmp_eq _ _).mp c_57
            | exact fun z => z.elim (fun y => absurd ((lg_cmp_eq _ _).mpr y) c_37) (fun y => absurd ((lg_cmp_eq _ _).mpr y) c_44)
        · exact A p (by omega)
      · refine ok_iconst (v := 0) dX4_agrees_60 (by decide) ?_
        refine ok_ireturn dX4_agrees_61 rfl rfl ?_
        rw [agr_0 hi (fun z => c_57 ((lg_cmp_eq _ _).mpr (z (by first | exact Or.inl ((lg_cmp_eq _ _).mp c_37) | exact Or.inr ((lg_cmp_eq _ _).mp c_44)))))] at K
        exact K
    · refine ok_lload dX4_agrees_40 rfl ?_
      refine ok_lconst (v := 1) dX4_agrees_42 (by decide) ?_
      refine ok_lcmp dX4_agrees_43 ?_
      refine ok_if_ne (tgt := 62) dX4_agrees_44 (by decide) (fun c_44 => ?_) (fun c_44 => ?_)
      · refine ok_iinc (v := _ + 1) (lo' := [_, _, _, _, _, _, _]) dX4_agrees_62 rfl rfl (Nat.le_of_ble_eq_true rfl) rfl rfl ?_
        refine ok_goto (tgt := 18) dX4_agrees_65 (by decide) ?_
        rw [nI_1]
        refine ih (i + 1) _ _ (by omega) (fun p hp => ?_)
        by_cases e : p = i
        · rw [e]
          first
            | exact fun _ => (lg_cmp_eq _ _).mp c_57
            | exact fun z => z.elim (fun y => absurd ((lg_cmp_eq _ _).mpr y) c_37) (fun y => absurd ((lg_cmp_eq _ _).mpr y) c_44)
        · exact A p (by omega)
      · refine ok_lload dX4_agrees_47 rfl ?_
        refine ok_iload_n dX4_agrees_49 rfl rfl ?_
        refine ok_iload dX4_agrees_50 rfl ?_
        refine ok_ishr dX4_agrees_52 ?_
        refine ok_iconst (v := 1) dX4_agrees_53 (by decide) ?_
        refine ok_iand dX4_agrees_54 ?_
        rw [bt_of hb (show i < 10 by omega)]
        refine ok_i2l dX4_agrees_55 ?_
        refine ok_lcmp dX4_agrees_56 ?_
        refine ok_if_eq (tgt := 62) dX4_agrees_57 (by decide) (fun c_57 => ?_) (fun c_57 => ?_)
        · refine ok_iinc (v := _ + 1) (lo' := [_, _, _, _, _, _, _]) dX4_agrees_62 rfl rfl (Nat.le_of_ble_eq_true rfl) rfl rfl ?_
          refine ok_goto (tgt := 18) dX4_agrees_65 (by decide) ?_
          rw [nI_1]
          refine ih (i + 1) _ _ (by omega) (fun p hp => ?_)
          by_cases e : p = i
          · rw [e]
            first
              | exact fun _ => (lg_cmp_eq _ _).mp c_57
              | exact fun z => z.elim (fun y => absurd ((lg_cmp_eq _ _).mpr y) c_37) (fun y => absurd ((lg_cmp_eq _ _).mpr y) c_44)
          · exact A p (by omega)
        · refine ok_iconst (v := 0) dX4_agrees_60 (by decide) ?_
          refine ok_ireturn dX4_agrees_61 rfl rfl ?_
          rw [agr_0 hi (fun z => c_57 ((lg_cmp_eq _ _).mpr (z (by first | exact Or.inl ((lg_cmp_eq _ _).mp c_37) | exact Or.inr ((lg_cmp_eq _ _).mp c_44)))))] at K
          exact K
theorem sp_X4_agrees {g : GG} {h : Hp} {Post : Option Value → Hp → Prop} {n : Nat} {r : Nat → Int32} (S : Hs h n r) {s : Nat} (hs : s < 4) {z : Nat} (hz : z ≤ 40) (ez : hI h (41 + 2 * s) 1 = nI z) {b : Nat} (hb : b < 1024) (K : Post (some (.int (w_agr (hL h (42 + 2 * s)) (min z n) b))) h) : Sp g mX4_agrees [.ref 0, .ref (41 + 2 * s), .int (nI b)] h Post := by
  show Go g mX4_agrees 0 [_, _, _, _, _, _, _] [] _ _ _
  have hv := S.1
  have hn := S.2.2.1
  have h6 := S.2.1.2.2.1
  have hq := s2
  refine ok_aload_n dX4_agrees_0 rfl rfl ?_
  refine ok_getI dX4_agrees_1 f_X4_223 (is_sh hv hs) rfl ?_
  refine ok_aload_n dX4_agrees_4 rfl rfl ?_
  refine ok_getR dX4_agrees_5 f_X4_16 (by first | exact is_lit hv (by decide) rfl | exact is_sq hv hq | exact is_row hv hq | exact is_pn hv hq (by assumption) | assumption) rfl (by first | exact rf hv rfl | exact rf_row hv hq | assumption) ?_
  refine ok_getI dX4_agrees_8 f_X4_53 (by first | exact is_lit hv (by decide) rfl | exact is_sq hv hq | exact is_row hv hq | exact is_pn hv hq (by assumption) | assumption) rfl ?_
  rw [h6, ez]
  refine ok_min dX4_agrees_11 w_467 w_293 w_71 w_294 (Nat.le_of_ble_eq_true rfl) (Nat.le_of_ble_eq_true rfl) ?_
  rw [cut_nI hz (by omega)]
  refine ok_istore_n (lo' := [_, _, _, _, _, _, _]) dX4_agrees_14 rfl (Nat.le_of_ble_eq_true rfl) rfl rfl ?_
  refine ok_iconst (v := 0) dX4_agrees_15 (by decide) ?_
  refine ok_istore (lo' := [_, _, _, _, _, _, _]) dX4_agrees_16 (Nat.le_of_ble_eq_true rfl) rfl rfl ?_
  exact lp_X4_agrees_18 hv hs (by omega) hb K (min z n) 0 _ _ (by omega) (fun p hp => absurd hp (by omega))
theorem sp_X4_read_b {g : GG} {h : Hp} {Post : Option Value → Hp → Prop} (hv : Inv h) (v k : Int32) (hb : v < 0 ∨ 4 ≤ v) (K : Post (some (.int (-1000000001))) (hfi h 0)) : Sp g mX4_read [.ref 0, .int v, .int k] h Post := by
  show Go g mX4_read 0 [_, _, _, _, _, _] [] _ _ _
  refine ok_iload_n dX4_read_0 rfl rfl ?_
  refine ok_callS (M' := mX4_isSheet) (b' := (0, 0)) (As := [_]) dX4_read_1 iX4_isSheet w_686 rfl (Nat.le_of_ble_eq_true rfl) ⟨Nat.le_of_ble_eq_true rfl, Nat.le_of_ble_eq_true rfl⟩ (Nat.le_of_ble_eq_true rfl) rfl rfl ?_
  refine sp_X4_isSheet _ ?_
  rw [ss_bad hb]
  refine ok_if_ne (tgt := 14) dX4_read_4 (by decide) (fun c9 => absurd c9 (fun c => c rfl)) (fun _ => ?_)
  refine ok_aload_n dX4_read_7 rfl rfl ?_
  refine ok_ldc dX4_read_8 w_253 ?_
  refine ok_callV (M' := mX4_finding) (b' := (0, 0)) (As := [_]) (cx := 4) dX4_read_10 iX4_finding w_254 (by decide) rfl (by first | exact is_lit hv (by decide) rfl | exact is_sq hv hq | exact is_row hv hq | exact is_pn hv hq (by assumption) | assumption) rfl (Nat.le_of_ble_eq_true rfl) ⟨Nat.le_of_ble_eq_true rfl, Nat.le_of_ble_eq_true rfl⟩ (Nat.le_of_ble_eq_true rfl) rfl rfl ?_
  refine sp_X4_finding hv (k := 0) (by decide) (by decide) ?_
  refine ok_ireturn dX4_read_13 rfl rfl ?_
  first | exact K | (simp only [↓reduceIte] at K; exact K)
theorem sp_X4_read_m {g : GG} {h : Hp} {Post : Option Value → Hp → Prop} (hv : Inv h) {s : Nat} (hs : s < 4) (k : Int32) (hm : hI h (41 + 2 * s) 0 = 0) (K : Post (some (.int (-1000000006))) (hfi h 5)) : Sp g mX4_read [.ref 0, .int (nI s), .int k] h Post := by
  show Go g mX4_read 0 [_, _, _, _, _, _] [] _ _ _
  refine ok_iload_n dX4_read_0 rfl rfl ?_
  refine ok_callS (M' := mX4_isSheet) (b' := (0, 0)) (As := [_]) dX4_read_1 iX4_isSheet w_686 rfl (Nat.le_of_ble_eq_true rfl) ⟨Nat.le_of_ble_eq_true rfl, Nat.le_of_ble_eq_true rfl⟩ (Nat.le_of_ble_eq_true rfl) rfl rfl ?_
  refine sp_X4_isSheet _ ?_
  rw [ss_ok hs]
  refine ok_if_ne (tgt := 14) dX4_read_4 (by decide) (fun _ => ?_) (fun c9 => absurd c9 (by decide))
  refine ok_aload_n dX4_read_14 rfl rfl ?_
  refine ok_getR dX4_read_15 f_X4_39 (by first | exact is_lit hv (by decide) rfl | exact is_sq hv hq | exact is_row hv hq | exact is_pn hv hq (by assumption) | assumption) rfl (by first | exact rf hv rfl | exact rf_row hv hq | assumption) ?_
  refine ok_iload_n dX4_read_18 rfl rfl ?_
  refine ok_aaloadS dX4_read_19 (is_lit hv (by decide) rfl) (in_4 hs) (rf_sh hv hs) ?_
  refine ok_callV (M' := mX1_isMissing) (b' := (0, 0)) (As := []) (cx := 1) dX4_read_20 iX1_isMissing w_700 (by decide) rfl (is_sh hv hs) rfl (Nat.le_of_ble_eq_true rfl) ⟨Nat.le_of_ble_eq_true rfl, Nat.le_of_ble_eq_true rfl⟩ (Nat.le_of_ble_eq_true rfl) rfl rfl ?_
  refine sp_X1_isMissing (is_sh hv hs) ?_
  rw [if_pos hm]
  refine ok_if_eq (tgt := 33) dX4_read_23 (by decide) (fun c9 => absurd c9 (by decide)) (fun _ => ?_)
  refine ok_aload_n dX4_read_26 rfl rfl ?_
  refine ok_ldc dX4_read_27 w_704 ?_
  refine ok_callV (M' := mX4_finding) (b' := (0, 0)) (As := [_]) (cx := 4) dX4_read_29 iX4_finding w_254 (by decide) rfl (by first | exact is_lit hv (by decide) rfl | exact is_sq hv hq | exact is_row hv hq | exact is_pn hv hq (by assumption) | assumption) rfl (Nat.le_of_ble_eq_true rfl) ⟨Nat.le_of_ble_eq_true rfl, Nat.le_of_ble_eq_true rfl⟩ (Nat.le_of_ble_eq_true rfl) rfl rfl ?_
  refine sp_X4_finding hv (k := 5) (by decide) (by decide) ?_
  refine ok_ireturn dX4_read_32 rfl rfl ?_
  first | exact K | (simp only [↓reduceIte] at K; exact K)
theorem sp_X4_read_w {g : GG} {h : Hp} {Post : Option Value → Hp → Prop} (hv : Inv h) {s : Nat} (hs : s < 4) {k : Int32} (hm : ¬ hI h (41 + 2 * s) 0 = 0) (hb : k < 0 ∨ 99 < k) (K : Post (some (.int (-1000000001))) (hfi h 0)) : Sp g mX4_read [.ref 0, .int (nI s), .int k] h Post := by
  show Go g mX4_read 0 [_, _, _, _, _, _] [] _ _ _
  refine ok_iload_n dX4_read_0 rfl rfl ?_
  refine ok_callS (M' := mX4_isSheet) (b' := (0, 0)) (As := [_]) dX4_read_1 iX4_isSheet w_686 rfl (Nat.le_of_ble_eq_true rfl) ⟨Nat.le_of_ble_eq_true rfl, Nat.le_of_ble_eq_true rfl⟩ (Nat.le_of_ble_eq_true rfl) rfl rfl ?_
  refine sp_X4_isSheet _ ?_
  rw [ss_ok hs]
  refine ok_if_ne (tgt := 14) dX4_read_4 (by decide) (fun _ => ?_) (fun c9 => absurd c9 (by decide))
  refine ok_aload_n dX4_read_14 rfl rfl ?_
  refine ok_getR dX4_read_15 f_X4_39 (by first | exact is_lit hv (by decide) rfl | exact is_sq hv hq | exact is_row hv hq | exact is_pn hv hq (by assumption) | assumption) rfl (by first | exact rf hv rfl | exact rf_row hv hq | assumption) ?_
  refine ok_iload_n dX4_read_18 rfl rfl ?_
  refine ok_aaloadS dX4_read_19 (is_lit hv (by decide) rfl) (in_4 hs) (rf_sh hv hs) ?_
  refine ok_callV (M' := mX1_isMissing) (b' := (0, 0)) (As := []) (cx := 1) dX4_read_20 iX1_isMissing w_700 (by decide) rfl (is_sh hv hs) rfl (Nat.le_of_ble_eq_true rfl) ⟨Nat.le_of_ble_eq_true rfl, Nat.le_of_ble_eq_true rfl⟩ (Nat.le_of_ble_eq_true rfl) rfl rfl ?_
  refine sp_X1_isMissing (is_sh hv hs) ?_
  rw [if_neg hm]
  refine ok_if_eq (tgt := 33) dX4_read_23 (by decide) (fun _ => ?_) (fun c9 => absurd rfl c9)
  refine ok_iload_n dX4_read_33 rfl rfl ?_
  refine ok_iconst (v := 0) dX4_read_34 (by decide) ?_
  refine ok_bipush (v := 99) dX4_read_35 (by decide) ?_
  refine ok_callS (M' := mX4_isWithin) (b' := (0, 0)) (As := [_, _, _]) dX4_read_37 iX4_isWithin w_302 rfl (Nat.le_of_ble_eq_true rfl) ⟨Nat.le_of_ble_eq_true rfl, Nat.le_of_ble_eq_true rfl⟩ (Nat.le_of_ble_eq_true rfl) rfl rfl ?_
  refine sp_X4_isWithin _ _ _ ?_
  rw [wi_bad hb]
  refine ok_if_ne (tgt := 50) dX4_read_40 (by decide) (fun c9 => absurd c9 (fun c => c rfl)) (fun _ => ?_)
  refine ok_aload_n dX4_read_43 rfl rfl ?_
  refine ok_ldc dX4_read_44 w_253 ?_
  refine ok_callV (M' := mX4_finding) (b' := (0, 0)) (As := [_]) (cx := 4) dX4_read_46 iX4_finding w_254 (by decide) rfl (by first | exact is_lit hv (by decide) rfl | exact is_sq hv hq | exact is_row hv hq | exact is_pn hv hq (by assumption) | assumption) rfl (Nat.le_of_ble_eq_true rfl) ⟨Nat.le_of_ble_eq_true rfl, Nat.le_of_ble_eq_true rfl⟩ (Nat.le_of_ble_eq_true rfl) rfl rfl ?_
  refine sp_X4_finding hv (k := 0) (by decide) (by decide) ?_
  refine ok_ireturn dX4_read_49 rfl rfl ?_
  first | exact K | (simp only [↓reduceIte] at K; exact K)
theorem lp_X4_read_66 {g : GG} {h : Hp} {Post : Option Value → Hp → Prop} {n : Nat} {r : Nat → Int32} (S : Hs h n r) {s : Nat} (hs : s < 4) {z : Nat} (hz : z ≤ 40) (ez : hI h (41 + 2 * s) 1 = nI z) {k : Int32} (K : Post (some (.int (w_ways (r 1) (hL h (42 + 2 * s)) (min z n) k (2 ^ n)))) h) : ∀ (kk i : Nat), i + kk = 2 ^ n → Go g mX4_read 66 [some (.ref 0), some (.int (nI s)), some (.int k), some (.int (w_ways (r 1) (hL h (42 + 2 * s)) (min z n) k i)), some (.int (nI (2 ^ n))), some (.int (nI i))] [] h (0, 0) Post := by
  intro kk
  induction kk with
  | zero =>
    intro i  hik 
    obtain rfl : i = 2 ^ n := by omega
    have hp2 : 2 ^ n ≤ 2 ^ 10 := pow_le S.2.2.1
    refine ok_iload dX4_read_66 rfl ?_
    refine ok_iload dX4_read_68 rfl ?_
    refine ok_icmp_ge (tgt := 114) dX4_read_70 (by decide) (fun _ => ?_) (fun c9 => absurd (nI_le (Nat.le_refl _) (by omega)) c9)
    refine ok_iload_n dX4_read_114 rfl rfl ?_
    refine ok_ireturn dX4_read_115 rfl rfl ?_
    first | exact K | (simp only [↓reduceIte] at K; exact K)
  | succ kk ih =>
    intro i  hik 
    have hi : i < 2 ^ n := by omega
    have hp2 : 2 ^ n ≤ 2 ^ 10 := pow_le S.2.2.1
    have hv := S.1
    refine ok_iload dX4_read_66 rfl ?_
    refine ok_iload dX4_read_68 rfl ?_
    refine ok_icmp_ge (tgt := 114) dX4_read_70 (by decide) (fun c9 => absurd c9 (nI_ge hi (by omega))) (fun _ => ?_)
    refine ok_aload_n dX4_read_73 rfl rfl ?_
    refine ok_getR dX4_read_74 f_X4_16 (by first | exact is_lit hv (by decide) rfl | exact is_sq hv hq | exact is_row hv hq | exact is_pn hv hq (by assumption) | assumption) rfl (by first | exact rf hv rfl | exact rf_row hv hq | assumption) ?_
    refine ok_getI dX4_read_77 f_X4_126 (by first | exact is_lit hv (by decide) rfl | exact is_sq hv hq | exact is_row hv hq | exact is_pn hv hq (by assumption) | assumption) rfl ?_
    refine ok_iload dX4_read_80 rfl ?_
    refine ok_callS (M' := mJ6_bitCount_0f7a4) (b' := (0, 0)) (As := [_]) dX4_read_82 iJ6_bitCount_0f7a4 w_525 rfl (Nat.le_of_ble_eq_true rfl) ⟨Nat.le_of_ble_eq_true rfl, Nat.le_of_ble_eq_true rfl⟩ (Nat.le_of_ble_eq_true rfl) rfl rfl ?_
    refine sp_J6_bitCount_0f7a4 (show i < 1024 by omega) ?_
    rw [S.2.1.2.2.2.1 0 (by decide)]
    refine ok_iadd dX4_read_85 ?_
    refine ok_iload_n dX4_read_86 rfl rfl ?_
    refine ok_icmp_ne (tgt := 108) dX4_read_87 (by decide) (fun c_87 => ?_) (fun c_87 => ?_)
    · refine ok_iinc (v := _ + 1) (lo' := [_, _, _, _, _, _]) dX4_read_108 rfl rfl (Nat.le_of_ble_eq_true rfl) rfl rfl ?_
      refine ok_goto (tgt := 66) dX4_read_111 (by decide) ?_
      rw [nI_1]
      have e := ih (i + 1) (by omega)
      rw [w_ways] at e
      first | (rw [if_neg c_87] at e; exact e) | (rw [if_pos c_87] at e; first | (rw [if_pos c_102] at e; exact e) | (rw [if_neg c_102] at e; exact e))
    · refine ok_aload_n dX4_read_90 rfl rfl ?_
      refine ok_aload_n dX4_read_91 rfl rfl ?_
      refine ok_getR dX4_read_92 f_X4_39 (by first | exact is_lit hv (by decide) rfl | exact is_sq hv hq | exact is_row hv hq | exact is_pn hv hq (by assumption) | assumption) rfl (by first | exact rf hv rfl | exact rf_row hv hq | assumption) ?_
      refine ok_iload_n dX4_read_95 rfl rfl ?_
      refine ok_aaloadS dX4_read_96 (is_lit hv (by decide) rfl) (in_4 hs) (rf_sh hv hs) ?_
      refine ok_iload dX4_read_97 rfl ?_
      refine ok_callV (M' := mX4_agrees) (b' := (0, 0)) (As := [_, _]) (cx := 4) dX4_read_99 iX4_agrees w_737 (by decide) rfl (by first | exact is_lit hv (by decide) rfl | exact is_sq hv hq | exact is_row hv hq | exact is_pn hv hq (by assumption) | assumption) rfl (Nat.le_of_ble_eq_true rfl) ⟨Nat.le_of_ble_eq_true rfl, Nat.le_of_ble_eq_true rfl⟩ (Nat.le_of_ble_eq_true rfl) rfl rfl ?_
      refine sp_X4_agrees S hs hz ez (show i < 1024 by omega) ?_
      refine ok_if_eq (tgt := 108) dX4_read_102 (by decide) (fun c_102 => ?_) (fun c_102 => ?_)
      · refine ok_iinc (v := _ + 1) (lo' := [_, _, _, _, _, _]) dX4_read_108 rfl rfl (Nat.le_of_ble_eq_true rfl) rfl rfl ?_
        refine ok_goto (tgt := 66) dX4_read_111 (by decide) ?_
        rw [nI_1]
        have e := ih (i + 1) (by omega)
        rw [w_ways] at e
        first | (rw [if_neg c_87] at e; exact e) | (rw [if_pos c_87] at e; first | (rw [if_pos c_102] at e; exact e) | (rw [if_neg c_102] at e; exact e))
      · refine ok_iinc (v := _ + 1) (lo' := [_, _, _, _, _, _]) dX4_read_105 rfl rfl (Nat.le_of_ble_eq_true rfl) rfl rfl ?_
        refine ok_iinc (v := _ + 1) (lo' := [_, _, _, _, _, _]) dX4_read_108 rfl rfl (Nat.le_of_ble_eq_true rfl) rfl rfl ?_
        refine ok_goto (tgt := 66) dX4_read_111 (by decide) ?_
        rw [nI_1]
        have e := ih (i + 1) (by omega)
        rw [w_ways] at e
        first | (rw [if_neg c_87] at e; exact e) | (rw [if_pos c_87] at e; first | (rw [if_pos c_102] at e; exact e) | (rw [if_neg c_102] at e; exact e))
theorem sp_X4_read {g : GG} {h : Hp} {Post : Option Value → Hp → Prop} {n : Nat} {r : Nat → Int32} (S : Hs h n r) {s : Nat} (hs : s < 4) (hm : ¬ hI h (41 + 2 * s) 0 = 0) {z : Nat} (hz : z ≤ 40) (ez : hI h (41 + 2 * s) 1 = nI z) {k : Int32} (h1 : ¬ k < 0) (h2 : ¬ 99 < k) (K : Post (some (.int (w_ways (r 1) (hL h (42 + 2 * s)) (min z n) k (2 ^ n)))) h) : Sp g mX4_read [.ref 0, .int (nI s), .int k] h Post := by
  show Go g mX4_read 0 [_, _, _, _, _, _] [] _ _ _
  have hv := S.1
  have hn := S.2.2.1
  have h6 := S.2.1.2.2.1
  have hq := s2
  refine ok_iload_n dX4_read_0 rfl rfl ?_
  refine ok_callS (M' := mX4_isSheet) (b' := (0, 0)) (As := [_]) dX4_read_1 iX4_isSheet w_686 rfl (Nat.le_of_ble_eq_true rfl) ⟨Nat.le_of_ble_eq_true rfl, Nat.le_of_ble_eq_true rfl⟩ (Nat.le_of_ble_eq_true rfl) rfl rfl ?_
  refine sp_X4_isSheet _ ?_
  rw [ss_ok hs]
  refine ok_if_ne (tgt := 14) dX4_read_4 (by decide) (fun _ => ?_) (fun c9 => absurd c9 (by decide))
  refine ok_aload_n dX4_read_14 rfl rfl ?_
  refine ok_getR dX4_read_15 f_X4_39 (by first | exact is_lit hv (by decide) rfl | exact is_sq hv hq | exact is_row hv hq | exact is_pn hv hq (by assumption) | assumption) rfl (by first | exact rf hv rfl | exact rf_row hv hq | assumption) ?_
  refine ok_iload_n dX4_read_18 rfl rfl ?_
  refine ok_aaloadS dX4_read_19 (is_lit hv (by decide) rfl) (in_4 hs) (rf_sh hv hs) ?_
  refine ok_callV (M' := mX1_isMissing) (b' := (0, 0)) (As := []) (cx := 1) dX4_read_20 iX1_isMissing w_700 (by decide) rfl (is_sh hv hs) rfl (Nat.le_of_ble_eq_true rfl) ⟨Nat.le_of_ble_eq_true rfl, Nat.le_of_ble_eq_true rfl⟩ (Nat.le_of_ble_eq_true rfl) rfl rfl ?_
  refine sp_X1_isMissing (is_sh hv hs) ?_
  rw [if_neg hm]
  refine ok_if_eq (tgt := 33) dX4_read_23 (by decide) (fun _ => ?_) (fun c9 => absurd rfl c9)
  refine ok_iload_n dX4_read_33 rfl rfl ?_
  refine ok_iconst (v := 0) dX4_read_34 (by decide) ?_
  refine ok_bipush (v := 99) dX4_read_35 (by decide) ?_
  refine ok_callS (M' := mX4_isWithin) (b' := (0, 0)) (As := [_, _, _]) dX4_read_37 iX4_isWithin w_302 rfl (Nat.le_of_ble_eq_true rfl) ⟨Nat.le_of_ble_eq_true rfl, Nat.le_of_ble_eq_true rfl⟩ (Nat.le_of_ble_eq_true rfl) rfl rfl ?_
  refine sp_X4_isWithin _ _ _ ?_
  rw [wi_ok h1 h2]
  refine ok_if_ne (tgt := 50) dX4_read_40 (by decide) (fun _ => ?_) (fun c9 => absurd c9 (by decide))
  refine ok_iconst (v := 0) dX4_read_50 (by decide) ?_
  refine ok_istore_n (lo' := [_, _, _, _, _, _]) dX4_read_51 rfl (Nat.le_of_ble_eq_true rfl) rfl rfl ?_
  refine ok_iconst (v := 1) dX4_read_52 (by decide) ?_
  refine ok_aload_n dX4_read_53 rfl rfl ?_
  refine ok_getR dX4_read_54 f_X4_16 (by first | exact is_lit hv (by decide) rfl | exact is_sq hv hq | exact is_row hv hq | exact is_pn hv hq (by assumption) | assumption) rfl (by first | exact rf hv rfl | exact rf_row hv hq | assumption) ?_
  refine ok_getI dX4_read_57 f_X4_53 (by first | exact is_lit hv (by decide) rfl | exact is_sq hv hq | exact is_row hv hq | exact is_pn hv hq (by assumption) | assumption) rfl ?_
  rw [h6]
  refine ok_ishl dX4_read_60 ?_
  rw [shl_n n hn]
  refine ok_istore (lo' := [_, _, _, _, _, _]) dX4_read_61 (Nat.le_of_ble_eq_true rfl) rfl rfl ?_
  refine ok_iconst (v := 0) dX4_read_63 (by decide) ?_
  refine ok_istore (lo' := [_, _, _, _, _, _]) dX4_read_64 (Nat.le_of_ble_eq_true rfl) rfl rfl ?_
  exact lp_X4_read_66 S hs hz ez K (2 ^ n) 0 (by omega)
theorem sp_X4_image {g : GG} {h : Hp} {Post : Option Value → Hp → Prop} {n : Nat} {r : Nat → Int32} (S : Hs h n r) (K : ∀ h', FrI 26 h h' → Rep h' 26 n r → Post (some (.int 1)) (uI h' 0 4 1)) : Sp g mX4_image [.ref 0] h Post := by
  show Go g mX4_image 0 [_] [] _ _ _
  have hv := S.1
  have hn := S.2.2.1
  have h6 := S.2.1.2.2.1
  have hq := s2
  refine ok_aload_n dX4_image_0 rfl rfl ?_
  refine ok_getR dX4_image_1 f_X4_23 (by first | exact is_lit hv (by decide) rfl | exact is_sq hv hq | exact is_row hv hq | exact is_pn hv hq (by assumption) | assumption) rfl (by first | exact rf hv rfl | exact rf_row hv hq | assumption) ?_
  refine ok_aload_n dX4_image_4 rfl rfl ?_
  refine ok_getR dX4_image_5 f_X4_16 (by first | exact is_lit hv (by decide) rfl | exact is_sq hv hq | exact is_row hv hq | exact is_pn hv hq (by assumption) | assumption) rfl (by first | exact rf hv rfl | exact rf_row hv hq | assumption) ?_
  refine ok_callV (M' := mX2_become) (b' := (0, 0)) (As := [_]) (cx := 2) dX4_image_8 iX2_become w_405 (by decide) rfl (by first | exact is_lit hv (by decide) rfl | exact is_sq hv hq | exact is_row hv hq | exact is_pn hv hq (by assumption) | assumption) rfl (Nat.le_of_ble_eq_true rfl) ⟨Nat.le_of_ble_eq_true rfl, Nat.le_of_ble_eq_true rfl⟩ (Nat.le_of_ble_eq_true rfl) rfl rfl ?_
  refine sp_X2_become (q := 26) (o := 2) (n := n) (r := r) S.1 s26 s2 (by decide) S.2.1 S.2.2.2.2.2.1 (fun h1 F1 R1 => ?_)
  have hv1 : Inv h1 := S.1.of F1.1
  have hv := hv1
  refine ok_aload_n dX4_image_11 rfl rfl ?_
  refine ok_iconst (v := 1) dX4_image_12 (by decide) ?_
  refine ok_putI dX4_image_13 f_X4_26 (by first | exact is_lit hv (by decide) rfl | exact is_sq hv hq | exact is_row hv hq | exact is_pn hv hq (by assumption) | assumption) rfl rfl rfl rfl ?_
  refine ok_iconst (v := 1) dX4_image_16 (by decide) ?_
  refine ok_ireturn dX4_image_17 rfl rfl ?_
  exact K h1 F1 R1
theorem sp_X4_undo_n {g : GG} {h : Hp} {Post : Option Value → Hp → Prop} (hv : Inv h) (hk : hI h 0 4 = 0) (K : Post (some (.int (-1000000004))) (hfi h 3)) : Sp g mX4_undo [.ref 0] h Post := by
  show Go g mX4_undo 0 [_] [] _ _ _
  refine ok_aload_n dX4_undo_0 rfl rfl ?_
  refine ok_getI dX4_undo_1 f_X4_26 (by first | exact is_lit hv (by decide) rfl | exact is_sq hv hq | exact is_row hv hq | exact is_pn hv hq (by assumption) | assumption) rfl ?_
  refine ok_if_ne (tgt := 14) dX4_undo_4 (by decide) (fun c9 => absurd c9 (fun c => c hk)) (fun _ => ?_)
  refine ok_aload_n dX4_undo_7 rfl rfl ?_
  refine ok_ldc dX4_undo_8 w_450 ?_
  refine ok_callV (M' := mX4_finding) (b' := (0, 0)) (As := [_]) (cx := 4) dX4_undo_10 iX4_finding w_254 (by decide) rfl (by first | exact is_lit hv (by decide) rfl | exact is_sq hv hq | exact is_row hv hq | exact is_pn hv hq (by assumption) | assumption) rfl (Nat.le_of_ble_eq_true rfl) ⟨Nat.le_of_ble_eq_true rfl, Nat.le_of_ble_eq_true rfl⟩ (Nat.le_of_ble_eq_true rfl) rfl rfl ?_
  refine sp_X4_finding hv (k := 3) (by decide) (by decide) ?_
  refine ok_ireturn dX4_undo_13 rfl rfl ?_
  first | exact K | (simp only [↓reduceIte] at K; exact K)
theorem sp_X4_undo {g : GG} {h : Hp} {Post : Option Value → Hp → Prop} (hv : Inv h) (hk : ¬ hI h 0 4 = 0) {n : Nat} {r : Nat → Int32} (R : Rep h 26 n r) (hb : B01 (r 3)) (K : ∀ h', FrI 2 h h' → Rep h' 2 n r → Post (some (.int (nI n))) h') : Sp g mX4_undo [.ref 0] h Post := by
  show Go g mX4_undo 0 [_] [] _ _ _
  refine ok_aload_n dX4_undo_0 rfl rfl ?_
  refine ok_getI dX4_undo_1 f_X4_26 (by first | exact is_lit hv (by decide) rfl | exact is_sq hv hq | exact is_row hv hq | exact is_pn hv hq (by assumption) | assumption) rfl ?_
  refine ok_if_ne (tgt := 14) dX4_undo_4 (by decide) (fun _ => ?_) (fun c9 => absurd c9 hk)
  refine ok_aload_n dX4_undo_14 rfl rfl ?_
  refine ok_getR dX4_undo_15 f_X4_16 (by first | exact is_lit hv (by decide) rfl | exact is_sq hv hq | exact is_row hv hq | exact is_pn hv hq (by assumption) | assumption) rfl (by first | exact rf hv rfl | exact rf_row hv hq | assumption) ?_
  refine ok_aload_n dX4_undo_18 rfl rfl ?_
  refine ok_getR dX4_undo_19 f_X4_23 (by first | exact is_lit hv (by decide) rfl | exact is_sq hv hq | exact is_row hv hq | exact is_pn hv hq (by assumption) | assumption) rfl (by first | exact rf hv rfl | exact rf_row hv hq | assumption) ?_
  refine ok_callV (M' := mX2_become) (b' := (0, 0)) (As := [_]) (cx := 2) dX4_undo_22 iX2_become w_405 (by decide) rfl (by first | exact is_lit hv (by decide) rfl | exact is_sq hv hq | exact is_row hv hq | exact is_pn hv hq (by assumption) | assumption) rfl (Nat.le_of_ble_eq_true rfl) ⟨Nat.le_of_ble_eq_true rfl, Nat.le_of_ble_eq_true rfl⟩ (Nat.le_of_ble_eq_true rfl) rfl rfl ?_
  refine sp_X2_become (q := 2) (o := 26) (n := n) (r := r) hv s2 s26 (by decide) R hb (fun h1 F1 R1 => ?_)
  have hv1 : Inv h1 := hv.of F1.1
  have hv := hv1
  have hq := s2
  refine ok_aload_n dX4_undo_25 rfl rfl ?_
  refine ok_getR dX4_undo_26 f_X4_16 (by first | exact is_lit hv (by decide) rfl | exact is_sq hv hq | exact is_row hv hq | exact is_pn hv hq (by assumption) | assumption) rfl (by first | exact rf hv rfl | exact rf_row hv hq | assumption) ?_
  refine ok_getI dX4_undo_29 f_X4_53 (by first | exact is_lit hv (by decide) rfl | exact is_sq hv hq | exact is_row hv hq | exact is_pn hv hq (by assumption) | assumption) rfl ?_
  rw [R1.2.2.1]
  refine ok_ireturn dX4_undo_32 rfl rfl ?_
  exact K h1 F1 R1
theorem sp_X4_tear {g : GG} {h : Hp} {Post : Option Value → Hp → Prop} (hv : Inv h) (hb : B01 (hI h 0 4)) (K : Post (some (.int (hI h 0 4))) (uI h 0 4 0)) : Sp g mX4_tear [.ref 0] h Post := by
  show Go g mX4_tear 0 [_, _] [] _ _ _
  refine ok_aload_n dX4_tear_0 rfl rfl ?_
  refine ok_getI dX4_tear_1 f_X4_26 (by first | exact is_lit hv (by decide) rfl | exact is_sq hv hq | exact is_row hv hq | exact is_pn hv hq (by assumption) | assumption) rfl ?_
  refine ok_callS (M' := mX4_oneIf) (b' := (0, 0)) (As := [_]) dX4_tear_4 iX4_oneIf w_351 rfl (Nat.le_of_ble_eq_true rfl) ⟨Nat.le_of_ble_eq_true rfl, Nat.le_of_ble_eq_true rfl⟩ (Nat.le_of_ble_eq_true rfl) rfl rfl ?_
  refine sp_X4_oneIf _ ?_
  rw [one_b hb]
  refine ok_istore_n (lo' := [_, _]) dX4_tear_7 rfl (Nat.le_of_ble_eq_true rfl) rfl rfl ?_
  refine ok_aload_n dX4_tear_8 rfl rfl ?_
  refine ok_iconst (v := 0) dX4_tear_9 (by decide) ?_
  refine ok_putI dX4_tear_10 f_X4_26 (by first | exact is_lit hv (by decide) rfl | exact is_sq hv hq | exact is_row hv hq | exact is_pn hv hq (by assumption) | assumption) rfl rfl rfl rfl ?_
  refine ok_iload_n dX4_tear_13 rfl rfl ?_
  refine ok_ireturn dX4_tear_14 rfl rfl ?_
  first | exact K | (simp only [↓reduceIte] at K; exact K)
def w_count (r : Nat → Int32) (n : Nat) (z : Int32) (w : Nat) : Int32 := if w = 0 then nI n else if w = 1 then z else if w = 2 then w_sum (fun p => ro r p 2) n else w_sum (fun p => ro r p 4) n
theorem sp_X4_count {g : GG} {h : Hp} {Post : Option Value → Hp → Prop} {n : Nat} {r : Nat → Int32} (S : Hs h n r) {w : Nat} (hw : w < 4) (K : Post (some (.int (w_count r n (hI h 38 1) w))) h) : Sp g mX4_count [.ref 0, .int (nI w)] h Post := by
  show Go g mX4_count 0 [_, _] [] _ _ _
  have hv := S.1
  have hn := S.2.2.1
  have h6 := S.2.1.2.2.1
  have hq := s2
  refine ok_iload_n dX4_count_0 rfl rfl ?_
  rcases (show w = 0 ∨ w = 1 ∨ w = 2 ∨ w = 3 by omega) with ew | ew | ew | ew
  · subst ew
    refine ok_tableIn (tgt := 32) (off := 31) dX4_count_1 (by decide) (by decide) (by decide) (by decide) ?_
    refine ok_aload_n dX4_count_32 rfl rfl ?_
    refine ok_getR dX4_count_33 f_X4_16 (by first | exact is_lit hv (by decide) rfl | exact is_sq hv hq | exact is_row hv hq | exact is_pn hv hq (by assumption) | assumption) rfl (by first | exact rf hv rfl | exact rf_row hv hq | assumption) ?_
    refine ok_getI dX4_count_36 f_X4_53 (by first | exact is_lit hv (by decide) rfl | exact is_sq hv hq | exact is_row hv hq | exact is_pn hv hq (by assumption) | assumption) rfl ?_
    rw [h6]
    refine ok_ireturn dX4_count_39 rfl rfl ?_
    exact K
  · subst ew
    refine ok_tableIn (tgt := 40) (off := 39) dX4_count_1 (by decide) (by decide) (by decide) (by decide) ?_
    refine ok_aload_n dX4_count_40 rfl rfl ?_
    refine ok_getR dX4_count_41 f_X4_33 (by first | exact is_lit hv (by decide) rfl | exact is_sq hv hq | exact is_row hv hq | exact is_pn hv hq (by assumption) | assumption) rfl (by first | exact rf hv rfl | exact rf_row hv hq | assumption) ?_
    refine ok_getI dX4_count_44 f_X4_203 (by first | exact is_lit hv (by decide) rfl | exact is_sq hv hq | exact is_row hv hq | exact is_pn hv hq (by assumption) | assumption) rfl ?_
    refine ok_ireturn dX4_count_47 rfl rfl ?_
    exact K
  · subst ew
    refine ok_tableIn (tgt := 48) (off := 47) dX4_count_1 (by decide) (by decide) (by decide) (by decide) ?_
    refine ok_aload_n dX4_count_48 rfl rfl ?_
    refine ok_getR dX4_count_49 f_X4_16 (by first | exact is_lit hv (by decide) rfl | exact is_sq hv hq | exact is_row hv hq | exact is_pn hv hq (by assumption) | assumption) rfl (by first | exact rf hv rfl | exact rf_row hv hq | assumption) ?_
    refine ok_callV (M' := mX2_allValues) (b' := (0, 0)) (As := []) (cx := 2) dX4_count_52 iX2_allValues w_757 (by decide) rfl (by first | exact is_lit hv (by decide) rfl | exact is_sq hv hq | exact is_row hv hq | exact is_pn hv hq (by assumption) | assumption) rfl (Nat.le_of_ble_eq_true rfl) ⟨Nat.le_of_ble_eq_true rfl, Nat.le_of_ble_eq_true rfl⟩ (Nat.le_of_ble_eq_true rfl) rfl rfl ?_
    refine sp_X2_allValues hv s2 hn h6 ?_
    rw [sum_rep S.2.1 (by decide)]
    refine ok_ireturn dX4_count_55 rfl rfl ?_
    exact K
  · subst ew
    refine ok_tableIn (tgt := 56) (off := 55) dX4_count_1 (by decide) (by decide) (by decide) (by decide) ?_
    refine ok_aload_n dX4_count_56 rfl rfl ?_
    refine ok_getR dX4_count_57 f_X4_16 (by first | exact is_lit hv (by decide) rfl | exact is_sq hv hq | exact is_row hv hq | exact is_pn hv hq (by assumption) | assumption) rfl (by first | exact rf hv rfl | exact rf_row hv hq | assumption) ?_
    refine ok_callV (M' := mX2_allThrew) (b' := (0, 0)) (As := []) (cx := 2) dX4_count_60 iX2_allThrew w_761 (by decide) rfl (by first | exact is_lit hv (by decide) rfl | exact is_sq hv hq | exact is_row hv hq | exact is_pn hv hq (by assumption) | assumption) rfl (Nat.le_of_ble_eq_true rfl) ⟨Nat.le_of_ble_eq_true rfl, Nat.le_of_ble_eq_true rfl⟩ (Nat.le_of_ble_eq_true rfl) rfl rfl ?_
    refine sp_X2_allThrew hv s2 hn h6 ?_
    rw [sum_rep S.2.1 (by decide)]
    refine ok_ireturn dX4_count_63 rfl rfl ?_
    exact K
theorem sp_X4_count_w {g : GG} {h : Hp} {Post : Option Value → Hp → Prop} (hv : Inv h) {w : Int32} (hw : w.toInt < 0 ∨ 3 < w.toInt) (K : Post (some (.int (-1000000001))) (hfi h 0)) : Sp g mX4_count [.ref 0, .int w] h Post := by
  show Go g mX4_count 0 [_, _] [] _ _ _
  refine ok_iload_n dX4_count_0 rfl rfl ?_
  skip
  · refine ok_tableOut (tgt := 64) dX4_count_1 hw (by decide) ?_
    refine ok_aload_n dX4_count_64 rfl rfl ?_
    refine ok_ldc dX4_count_65 w_253 ?_
    refine ok_callV (M' := mX4_finding) (b' := (0, 0)) (As := [_]) (cx := 4) dX4_count_67 iX4_finding w_254 (by decide) rfl (by first | exact is_lit hv (by decide) rfl | exact is_sq hv hq | exact is_row hv hq | exact is_pn hv hq (by assumption) | assumption) rfl (Nat.le_of_ble_eq_true rfl) ⟨Nat.le_of_ble_eq_true rfl, Nat.le_of_ble_eq_true rfl⟩ (Nat.le_of_ble_eq_true rfl) rfl rfl ?_
    refine sp_X4_finding hv (k := 0) (by decide) (by decide) ?_
    refine ok_ireturn dX4_count_70 rfl rfl ?_
    first | exact K | (simp only [↓reduceIte] at K; exact K)
theorem lp_X4_status_9 {g : GG} {h : Hp} {Post : Option Value → Hp → Prop} (hv : Inv h) (K : Post (some (.int (w_sum (fun k => hI h 1 k) 7))) h) : ∀ (k i : Nat), i + k = 7 → Go g mX4_status 9 [some (.ref 0), some (.int (-1)), some (.int (w_sum (fun k => hI h 1 k) i)), some (.int (nI i))] [] h (0, 0) Post := by
  intro k
  induction k with
  | zero =>
    intro i  hik 
    obtain rfl : i = 7 := by omega
    refine ok_iload_n dX4_status_9 rfl rfl ?_
    refine ok_bipush (v := 7) dX4_status_10 (by decide) ?_
    refine ok_icmp_ge (tgt := 30) dX4_status_12 (by decide) (fun _ => ?_) (fun c9 => absurd (by decide) c9)
    refine ok_iload_n dX4_status_30 rfl rfl ?_
    refine ok_ireturn dX4_status_31 rfl rfl ?_
    first | exact K | (simp only [↓reduceIte] at K; exact K)
  | succ k ih =>
    intro i  hik 
    have hi : i < 7 := by omega
    refine ok_iload_n dX4_status_9 rfl rfl ?_
    refine ok_bipush (v := 7) dX4_status_10 (by decide) ?_
    refine ok_icmp_ge (tgt := 30) dX4_status_12 (by decide) (fun c9 => absurd c9 (nI_ge (show i < 7 by omega) (by decide))) (fun _ => ?_)
    refine ok_iload_n dX4_status_15 rfl rfl ?_
    refine ok_aload_n dX4_status_16 rfl rfl ?_
    refine ok_getR dX4_status_17 f_X4_9 (by first | exact is_lit hv (by decide) rfl | exact is_sq hv hq | exact is_row hv hq | exact is_pn hv hq (by assumption) | assumption) rfl (by first | exact rf hv rfl | exact rf_row hv hq | assumption) ?_
    refine ok_iload_n dX4_status_20 rfl rfl ?_
    refine ok_iaload dX4_status_21 (by first | exact is_lit hv (by decide) rfl | exact is_sq hv hq | exact is_row hv hq | exact is_pn hv hq (by assumption) | assumption) (vp_in_nI hi (by decide)) ?_
    rw [nI_clamp (by omega)]
    refine ok_iadd dX4_status_22 ?_
    refine ok_istore_n (lo' := [_, _, _, _]) dX4_status_23 rfl (Nat.le_of_ble_eq_true rfl) rfl rfl ?_
    refine ok_iinc (v := _ + 1) (lo' := [_, _, _, _]) dX4_status_24 rfl rfl (Nat.le_of_ble_eq_true rfl) rfl rfl ?_
    refine ok_goto (tgt := 9) dX4_status_27 (by decide) ?_
    rw [nI_1]
    exact ih (i + 1) (by omega)
theorem sp_X4_status_s {g : GG} {h : Hp} {Post : Option Value → Hp → Prop} (hv : Inv h) (K : Post (some (.int (w_sum (fun k => hI h 1 k) 7))) h) : Sp g mX4_status [.ref 0, .int (-1)] h Post := by
  show Go g mX4_status 0 [_, _, _, _] [] _ _ _
  refine ok_iload_n dX4_status_0 rfl rfl ?_
  refine ok_iconst (v := -1) dX4_status_1 (by decide) ?_
  refine ok_icmp_ne (tgt := 32) dX4_status_2 (by decide) (fun c9 => absurd c9 (fun c => c rfl)) (fun _ => ?_)
  refine ok_iconst (v := 0) dX4_status_5 (by decide) ?_
  refine ok_istore_n (lo' := [_, _, _, _]) dX4_status_6 rfl (Nat.le_of_ble_eq_true rfl) rfl rfl ?_
  refine ok_iconst (v := 0) dX4_status_7 (by decide) ?_
  refine ok_istore_n (lo' := [_, _, _, _]) dX4_status_8 rfl (Nat.le_of_ble_eq_true rfl) rfl rfl ?_
  exact lp_X4_status_9 hv K 7 0 (by omega)
theorem sp_X4_status_b {g : GG} {h : Hp} {Post : Option Value → Hp → Prop} (hv : Inv h) {v : Int32} (h1 : ¬ v = -1) (hb : v < 0) (K : Post (some (.int (-1000000001))) (hfi h 0)) : Sp g mX4_status [.ref 0, .int v] h Post := by
  show Go g mX4_status 0 [_, _, _, _] [] _ _ _
  refine ok_iload_n dX4_status_0 rfl rfl ?_
  refine ok_iconst (v := -1) dX4_status_1 (by decide) ?_
  refine ok_icmp_ne (tgt := 32) dX4_status_2 (by decide) (fun _ => ?_) (fun c9 => absurd c9 h1)
  refine ok_iload_n dX4_status_32 rfl rfl ?_
  refine ok_if_lt (tgt := 42) dX4_status_33 (by decide) (fun _ => ?_) (fun c9 => absurd hb c9)
  refine ok_aload_n dX4_status_42 rfl rfl ?_
  refine ok_ldc dX4_status_43 w_253 ?_
  refine ok_callV (M' := mX4_finding) (b' := (0, 0)) (As := [_]) (cx := 4) dX4_status_45 iX4_finding w_254 (by decide) rfl (by first | exact is_lit hv (by decide) rfl | exact is_sq hv hq | exact is_row hv hq | exact is_pn hv hq (by assumption) | assumption) rfl (Nat.le_of_ble_eq_true rfl) ⟨Nat.le_of_ble_eq_true rfl, Nat.le_of_ble_eq_true rfl⟩ (Nat.le_of_ble_eq_true rfl) rfl rfl ?_
  refine sp_X4_finding hv (k := 0) (by decide) (by decide) ?_
  refine ok_ireturn dX4_status_48 rfl rfl ?_
  first | exact K | (simp only [↓reduceIte] at K; exact K)
theorem sp_X4_status_c {g : GG} {h : Hp} {Post : Option Value → Hp → Prop} (hv : Inv h) {v : Int32} (h1 : ¬ v < 0) (hb : 7 ≤ v) (K : Post (some (.int (-1000000001))) (hfi h 0)) : Sp g mX4_status [.ref 0, .int v] h Post := by
  show Go g mX4_status 0 [_, _, _, _] [] _ _ _
  refine ok_iload_n dX4_status_0 rfl rfl ?_
  refine ok_iconst (v := -1) dX4_status_1 (by decide) ?_
  refine ok_icmp_ne (tgt := 32) dX4_status_2 (by decide) (fun _ => ?_) (fun c9 => absurd c9 (fun e => h1 (by rw [e]; decide)))
  refine ok_iload_n dX4_status_32 rfl rfl ?_
  refine ok_if_lt (tgt := 42) dX4_status_33 (by decide) (fun c9 => absurd c9 h1) (fun _ => ?_)
  refine ok_iload_n dX4_status_36 rfl rfl ?_
  refine ok_bipush (v := 7) dX4_status_37 (by decide) ?_
  refine ok_icmp_lt (tgt := 49) dX4_status_39 (by decide) (fun c9 => absurd c9 (i_nlt.mpr hb)) (fun _ => ?_)
  refine ok_aload_n dX4_status_42 rfl rfl ?_
  refine ok_ldc dX4_status_43 w_253 ?_
  refine ok_callV (M' := mX4_finding) (b' := (0, 0)) (As := [_]) (cx := 4) dX4_status_45 iX4_finding w_254 (by decide) rfl (by first | exact is_lit hv (by decide) rfl | exact is_sq hv hq | exact is_row hv hq | exact is_pn hv hq (by assumption) | assumption) rfl (Nat.le_of_ble_eq_true rfl) ⟨Nat.le_of_ble_eq_true rfl, Nat.le_of_ble_eq_true rfl⟩ (Nat.le_of_ble_eq_true rfl) rfl rfl ?_
  refine sp_X4_finding hv (k := 0) (by decide) (by decide) ?_
  refine ok_ireturn dX4_status_48 rfl rfl ?_
  first | exact K | (simp only [↓reduceIte] at K; exact K)
theorem sp_X4_status {g : GG} {h : Hp} {Post : Option Value → Hp → Prop} (hv : Inv h) {k : Nat} (hk : k < 7) (K : Post (some (.int (hI h 1 k))) h) : Sp g mX4_status [.ref 0, .int (nI k)] h Post := by
  show Go g mX4_status 0 [_, _, _, _] [] _ _ _
  refine ok_iload_n dX4_status_0 rfl rfl ?_
  refine ok_iconst (v := -1) dX4_status_1 (by decide) ?_
  refine ok_icmp_ne (tgt := 32) dX4_status_2 (by decide) (fun _ => ?_) (fun c9 => absurd c9 (fun e => nI_pos (show k < 2 ^ 31 by omega) (by rw [e]; decide)))
  refine ok_iload_n dX4_status_32 rfl rfl ?_
  refine ok_if_lt (tgt := 42) dX4_status_33 (by decide) (fun c9 => absurd c9 (nI_pos (by omega))) (fun _ => ?_)
  refine ok_iload_n dX4_status_36 rfl rfl ?_
  refine ok_bipush (v := 7) dX4_status_37 (by decide) ?_
  refine ok_icmp_lt (tgt := 49) dX4_status_39 (by decide) (fun _ => ?_) (fun c9 => absurd (nI_lt hk (by decide)) c9)
  refine ok_aload_n dX4_status_49 rfl rfl ?_
  refine ok_getR dX4_status_50 f_X4_9 (by first | exact is_lit hv (by decide) rfl | exact is_sq hv hq | exact is_row hv hq | exact is_pn hv hq (by assumption) | assumption) rfl (by first | exact rf hv rfl | exact rf_row hv hq | assumption) ?_
  refine ok_iload_n dX4_status_53 rfl rfl ?_
  refine ok_iaload dX4_status_54 (by first | exact is_lit hv (by decide) rfl | exact is_sq hv hq | exact is_row hv hq | exact is_pn hv hq (by assumption) | assumption) (vp_in_nI hk (by decide)) ?_
  rw [nI_clamp (by omega)]
  refine ok_ireturn dX4_status_55 rfl rfl ?_
  first | exact K | (simp only [↓reduceIte] at K; exact K)
def hap (h : Hp) (x : Int32) : Hp := uI (uI h 39 (hI h 38 1).toNatClampNeg (vp_nar .byte x)) 38 1 (hI h 38 1 + 1)
def hfd (b : Int32) : Nat → Hp → Hp
  | 0, h => h
  | k + 1, h => hfd b k (hap h ((b >>> (8 * nI k &&& 31)).toInt8.toInt32))
theorem sp_X3_append {g : GG} {h : Hp} {Post : Option Value → Hp → Prop} (hv : Inv h) {z : Nat} (ez : hI h 38 1 = nI z) (hz : z < 120) (x : Int32) (K : Post none (hap h x)) : Sp g mX3_append [.ref 38, .int x] h Post := by
  show Go g mX3_append 0 [_, _] [] _ _ _
  refine ok_aload_n dX3_append_0 rfl rfl ?_
  refine ok_getR dX3_append_1 f_X3_9 (by first | exact is_lit hv (by decide) rfl | exact is_sq hv hq | exact is_row hv hq | exact is_pn hv hq (by assumption) | assumption) rfl (by first | exact rf hv rfl | exact rf_row hv hq | assumption) ?_
  refine ok_aload_n dX3_append_4 rfl rfl ?_
  refine ok_getI dX3_append_5 f_X3_15 (by first | exact is_lit hv (by decide) rfl | exact is_sq hv hq | exact is_row hv hq | exact is_pn hv hq (by assumption) | assumption) rfl ?_
  refine ok_iload_n dX3_append_8 rfl rfl ?_
  refine ok_bastore dX3_append_9 (by first | exact is_lit hv (by decide) rfl | exact is_sq hv hq | exact is_row hv hq | exact is_pn hv hq (by assumption) | assumption) (by rw [ez]; exact vp_in_nI hz (by decide)) ?_
  refine ok_aload_n dX3_append_10 rfl rfl ?_
  refine ok_dup dX3_append_11 rfl ?_
  refine ok_getI dX3_append_12 f_X3_15 (by first | exact is_lit hv (by decide) rfl | exact is_sq hv hq | exact is_row hv hq | exact is_pn hv hq (by assumption) | assumption) rfl ?_
  refine ok_iconst (v := 1) dX3_append_15 (by decide) ?_
  refine ok_iadd dX3_append_16 ?_
  refine ok_putI dX3_append_17 f_X3_15 (by first | exact is_lit hv (by decide) rfl | exact is_sq hv hq | exact is_row hv hq | exact is_pn hv hq (by assumption) | assumption) rfl rfl rfl rfl ?_
  refine ok_return dX3_append_20 rfl ?_
  first | exact K | (simp only [↓reduceIte] at K; exact K)
theorem sp_X4_wipe {g : GG} {h : Hp} {Post : Option Value → Hp → Prop} (hv : Inv h) (K : Post (some (.int (hI h 38 1))) (uI h 38 1 0)) : Sp g mX4_wipe [.ref 0] h Post := by
  show Go g mX4_wipe 0 [_, _] [] _ _ _
  refine ok_aload_n dX4_wipe_0 rfl rfl ?_
  refine ok_getR dX4_wipe_1 f_X4_33 (by first | exact is_lit hv (by decide) rfl | exact is_sq hv hq | exact is_row hv hq | exact is_pn hv hq (by assumption) | assumption) rfl (by first | exact rf hv rfl | exact rf_row hv hq | assumption) ?_
  refine ok_getI dX4_wipe_4 f_X4_203 (by first | exact is_lit hv (by decide) rfl | exact is_sq hv hq | exact is_row hv hq | exact is_pn hv hq (by assumption) | assumption) rfl ?_
  refine ok_istore_n (lo' := [_, _]) dX4_wipe_7 rfl (Nat.le_of_ble_eq_true rfl) rfl rfl ?_
  refine ok_aload_n dX4_wipe_8 rfl rfl ?_
  refine ok_getR dX4_wipe_9 f_X4_33 (by first | exact is_lit hv (by decide) rfl | exact is_sq hv hq | exact is_row hv hq | exact is_pn hv hq (by assumption) | assumption) rfl (by first | exact rf hv rfl | exact rf_row hv hq | assumption) ?_
  refine ok_iconst (v := 0) dX4_wipe_12 (by decide) ?_
  refine ok_putI dX4_wipe_13 f_X4_203 (by first | exact is_lit hv (by decide) rfl | exact is_sq hv hq | exact is_row hv hq | exact is_pn hv hq (by assumption) | assumption) rfl rfl rfl rfl ?_
  refine ok_iload_n dX4_wipe_16 rfl rfl ?_
  refine ok_ireturn dX4_wipe_17 rfl rfl ?_
  first | exact K | (simp only [↓reduceIte] at K; exact K)
theorem sp_X4_feed_b {g : GG} {h : Hp} {Post : Option Value → Hp → Prop} (hv : Inv h) (b : Int32) {v : Int32} (hb : v < 1 ∨ 4 < v) (K : Post (some (.int (-1000000001))) (hfi h 0)) : Sp g mX4_feed [.ref 0, .int b, .int v] h Post := by
  show Go g mX4_feed 0 [_, _, _, _] [] _ _ _
  refine ok_iload_n dX4_feed_0 rfl rfl ?_
  refine ok_iconst (v := 1) dX4_feed_1 (by decide) ?_
  refine ok_iconst (v := 4) dX4_feed_2 (by decide) ?_
  refine ok_callS (M' := mX4_isWithin) (b' := (0, 0)) (As := [_, _, _]) dX4_feed_3 iX4_isWithin w_302 rfl (Nat.le_of_ble_eq_true rfl) ⟨Nat.le_of_ble_eq_true rfl, Nat.le_of_ble_eq_true rfl⟩ (Nat.le_of_ble_eq_true rfl) rfl rfl ?_
  refine sp_X4_isWithin _ _ _ ?_
  rw [wi_bad hb]
  refine ok_if_ne (tgt := 16) dX4_feed_6 (by decide) (fun c9 => absurd c9 (fun c => c rfl)) (fun _ => ?_)
  refine ok_aload_n dX4_feed_9 rfl rfl ?_
  refine ok_ldc dX4_feed_10 w_253 ?_
  refine ok_callV (M' := mX4_finding) (b' := (0, 0)) (As := [_]) (cx := 4) dX4_feed_12 iX4_finding w_254 (by decide) rfl (by first | exact is_lit hv (by decide) rfl | exact is_sq hv hq | exact is_row hv hq | exact is_pn hv hq (by assumption) | assumption) rfl (Nat.le_of_ble_eq_true rfl) ⟨Nat.le_of_ble_eq_true rfl, Nat.le_of_ble_eq_true rfl⟩ (Nat.le_of_ble_eq_true rfl) rfl rfl ?_
  refine sp_X4_finding hv (k := 0) (by decide) (by decide) ?_
  refine ok_ireturn dX4_feed_15 rfl rfl ?_
  first | exact K | (simp only [↓reduceIte] at K; exact K)
theorem sp_X4_feed_f {g : GG} {h : Hp} {Post : Option Value → Hp → Prop} (hv : Inv h) (b : Int32) {v : Int32} (h1 : ¬ v < 1) (h2 : ¬ 4 < v) (hf : ¬ hI h 38 1 + v ≤ 120) (K : Post (some (.int (-1000000002))) (hfi h 1)) : Sp g mX4_feed [.ref 0, .int b, .int v] h Post := by
  show Go g mX4_feed 0 [_, _, _, _] [] _ _ _
  refine ok_iload_n dX4_feed_0 rfl rfl ?_
  refine ok_iconst (v := 1) dX4_feed_1 (by decide) ?_
  refine ok_iconst (v := 4) dX4_feed_2 (by decide) ?_
  refine ok_callS (M' := mX4_isWithin) (b' := (0, 0)) (As := [_, _, _]) dX4_feed_3 iX4_isWithin w_302 rfl (Nat.le_of_ble_eq_true rfl) ⟨Nat.le_of_ble_eq_true rfl, Nat.le_of_ble_eq_true rfl⟩ (Nat.le_of_ble_eq_true rfl) rfl rfl ?_
  refine sp_X4_isWithin _ _ _ ?_
  rw [wi_ok h1 h2]
  refine ok_if_ne (tgt := 16) dX4_feed_6 (by decide) (fun _ => ?_) (fun c9 => absurd c9 (by decide))
  refine ok_aload_n dX4_feed_16 rfl rfl ?_
  refine ok_getR dX4_feed_17 f_X4_33 (by first | exact is_lit hv (by decide) rfl | exact is_sq hv hq | exact is_row hv hq | exact is_pn hv hq (by assumption) | assumption) rfl (by first | exact rf hv rfl | exact rf_row hv hq | assumption) ?_
  refine ok_getI dX4_feed_20 f_X4_203 (by first | exact is_lit hv (by decide) rfl | exact is_sq hv hq | exact is_row hv hq | exact is_pn hv hq (by assumption) | assumption) rfl ?_
  refine ok_iload_n dX4_feed_23 rfl rfl ?_
  refine ok_iadd dX4_feed_24 ?_
  refine ok_bipush (v := 120) dX4_feed_25 (by decide) ?_
  refine ok_icmp_le (tgt := 37) dX4_feed_27 (by decide) (fun c9 => absurd c9 hf) (fun _ => ?_)
  refine ok_aload_n dX4_feed_30 rfl rfl ?_
  refine ok_ldc dX4_feed_31 w_258 ?_
  refine ok_callV (M' := mX4_finding) (b' := (0, 0)) (As := [_]) (cx := 4) dX4_feed_33 iX4_finding w_254 (by decide) rfl (by first | exact is_lit hv (by decide) rfl | exact is_sq hv hq | exact is_row hv hq | exact is_pn hv hq (by assumption) | assumption) rfl (Nat.le_of_ble_eq_true rfl) ⟨Nat.le_of_ble_eq_true rfl, Nat.le_of_ble_eq_true rfl⟩ (Nat.le_of_ble_eq_true rfl) rfl rfl ?_
  refine sp_X4_finding hv (k := 1) (by decide) (by decide) ?_
  refine ok_ireturn dX4_feed_36 rfl rfl ?_
  first | exact K | (simp only [↓reduceIte] at K; exact K)
theorem at_uI {h : Hp} {a k : Nat} {v : Int32} : hI (uI h a k v) a k = v := if_pos ⟨rfl, rfl⟩
theorem nI_p1 {k : Nat} (hk : k < 1000) : nI (k + 1) - 1 = nI k := by
  rw [i_eq, fb_subI (by rw [nI_toInt (by omega)]; have e : (1 : Int32).toInt = 1 := rfl; omega) (by rw [nI_toInt (by omega)]; have e : (1 : Int32).toInt = 1 := rfl; omega), nI_toInt (by omega), nI_toInt (by omega)]
  have e : (1 : Int32).toInt = 1 := rfl
  omega
theorem nI_m1 {k : Nat} : nI k + (-1) = nI k - 1 := by
  rw [Int32.sub_eq_add_neg]
theorem at_ap {h : Hp} {z : Nat} {x : Int32} (hz : z < 1000) (ez : hI h 38 1 = nI z) : hI (hap h x) 38 1 = nI (z + 1) := by
  have e : hI (hap h x) 38 1 = hI h 38 1 + 1 := at_uI (h := uI h 39 (hI h 38 1).toNatClampNeg (vp_nar .byte x))
  rw [e, ez, nI_1]
theorem nI_pl {a b : Nat} (h : a + b < 100000) : nI a + nI b = nI (a + b) := by
  rw [i_eq, fb_addI (by rw [nI_toInt (by omega), nI_toInt (by omega)]; omega) (by rw [nI_toInt (by omega), nI_toInt (by omega)]; omega), nI_toInt (by omega), nI_toInt (by omega), nI_toInt (by omega)]
  omega
theorem lp_X4_feed_41 {g : GG} {Post : Option Value → Hp → Prop} (b v : Int32) : ∀ (k : Nat) (h : Hp) (z : Nat), Inv h → hI h 38 1 = nI z → z + k ≤ 120 → Post (some (.int (hI (hfd b k h) 38 1))) (hfd b k h) → Go g mX4_feed 41 [some (.ref 0), some (.int b), some (.int v), some (.int (nI k - 1))] [] h (0, 0) Post := by
  intro k
  induction k with
  | zero =>
    intro h z hv ez hz K
    refine ok_iload_n dX4_feed_41 rfl rfl ?_
    refine ok_if_lt (tgt := 65) dX4_feed_42 (by decide) (fun _ => ?_) (fun c9 => absurd (by decide) c9)
    refine ok_aload_n dX4_feed_65 rfl rfl ?_
    refine ok_getR dX4_feed_66 f_X4_33 (by first | exact is_lit hv (by decide) rfl | exact is_sq hv hq | exact is_row hv hq | exact is_pn hv hq (by assumption) | assumption) rfl (by first | exact rf hv rfl | exact rf_row hv hq | assumption) ?_
    refine ok_getI dX4_feed_69 f_X4_203 (by first | exact is_lit hv (by decide) rfl | exact is_sq hv hq | exact is_row hv hq | exact is_pn hv hq (by assumption) | assumption) rfl ?_
    refine ok_ireturn dX4_feed_72 rfl rfl ?_
    first | exact K | (simp only [↓reduceIte] at K; exact K)
  | succ k ih =>
    intro h z hv ez hz K
    rw [nI_p1 (by omega)]
    refine ok_iload_n dX4_feed_41 rfl rfl ?_
    refine ok_if_lt (tgt := 65) dX4_feed_42 (by decide) (fun c9 => absurd c9 (nI_pos (by omega))) (fun _ => ?_)
    refine ok_aload_n dX4_feed_45 rfl rfl ?_
    refine ok_getR dX4_feed_46 f_X4_33 (by first | exact is_lit hv (by decide) rfl | exact is_sq hv hq | exact is_row hv hq | exact is_pn hv hq (by assumption) | assumption) rfl (by first | exact rf hv rfl | exact rf_row hv hq | assumption) ?_
    refine ok_iload_n dX4_feed_49 rfl rfl ?_
    refine ok_bipush (v := 8) dX4_feed_50 (by decide) ?_
    refine ok_iload_n dX4_feed_52 rfl rfl ?_
    refine ok_imul dX4_feed_53 ?_
    refine ok_ishr dX4_feed_54 ?_
    refine ok_i2b dX4_feed_55 ?_
    refine ok_callV (M' := mX3_append) (b' := (0, 0)) (As := [_]) (cx := 3) dX4_feed_56 iX3_append w_540 (by decide) rfl (by first | exact is_lit hv (by decide) rfl | exact is_sq hv hq | exact is_row hv hq | exact is_pn hv hq (by assumption) | assumption) rfl (Nat.le_of_ble_eq_true rfl) ⟨Nat.le_of_ble_eq_true rfl, Nat.le_of_ble_eq_true rfl⟩ (Nat.le_of_ble_eq_true rfl) rfl rfl ?_
    refine sp_X3_append hv ez (by omega) _ ?_
    refine ok_iinc (v := _ + (-1)) (lo' := [_, _, _, _]) dX4_feed_59 rfl rfl (Nat.le_of_ble_eq_true rfl) rfl rfl ?_
    refine ok_goto (tgt := 41) dX4_feed_62 (by decide) ?_
    rw [nI_m1]
    exact ih _ (z + 1) hv ((at_ap (by omega) ez)) (by omega) K
theorem sp_X4_feed {g : GG} {h : Hp} {Post : Option Value → Hp → Prop} (hv : Inv h) (b : Int32) {k z : Nat} (h1 : 1 ≤ k) (h2 : k ≤ 4) (ez : hI h 38 1 = nI z) (hz : z + k ≤ 120) (K : Post (some (.int (hI (hfd b k h) 38 1))) (hfd b k h)) : Sp g mX4_feed [.ref 0, .int b, .int (nI k)] h Post := by
  show Go g mX4_feed 0 [_, _, _, _] [] _ _ _
  refine ok_iload_n dX4_feed_0 rfl rfl ?_
  refine ok_iconst (v := 1) dX4_feed_1 (by decide) ?_
  refine ok_iconst (v := 4) dX4_feed_2 (by decide) ?_
  refine ok_callS (M' := mX4_isWithin) (b' := (0, 0)) (As := [_, _, _]) dX4_feed_3 iX4_isWithin w_302 rfl (Nat.le_of_ble_eq_true rfl) ⟨Nat.le_of_ble_eq_true rfl, Nat.le_of_ble_eq_true rfl⟩ (Nat.le_of_ble_eq_true rfl) rfl rfl ?_
  refine sp_X4_isWithin _ _ _ ?_
  rw [wi_ok (v := nI k) (l := 1) (u := 4) (nI_nlt (a := k) (b := 1) h1 (by omega)) (nI_nlt (a := 4) (b := k) h2 (by omega))]
  refine ok_if_ne (tgt := 16) dX4_feed_6 (by decide) (fun _ => ?_) (fun c9 => absurd c9 (by decide))
  refine ok_aload_n dX4_feed_16 rfl rfl ?_
  refine ok_getR dX4_feed_17 f_X4_33 (by first | exact is_lit hv (by decide) rfl | exact is_sq hv hq | exact is_row hv hq | exact is_pn hv hq (by assumption) | assumption) rfl (by first | exact rf hv rfl | exact rf_row hv hq | assumption) ?_
  refine ok_getI dX4_feed_20 f_X4_203 (by first | exact is_lit hv (by decide) rfl | exact is_sq hv hq | exact is_row hv hq | exact is_pn hv hq (by assumption) | assumption) rfl ?_
  refine ok_iload_n dX4_feed_23 rfl rfl ?_
  refine ok_iadd dX4_feed_24 ?_
  refine ok_bipush (v := 120) dX4_feed_25 (by decide) ?_
  rw [ez, nI_pl (by omega)]
  refine ok_icmp_le (tgt := 37) dX4_feed_27 (by decide) (fun _ => ?_) (fun c9 => absurd (nI_le (a := z + k) (b := 120) hz (by omega)) c9)
  refine ok_iload_n dX4_feed_37 rfl rfl ?_
  refine ok_iconst (v := 1) dX4_feed_38 (by decide) ?_
  refine ok_isub dX4_feed_39 ?_
  refine ok_istore_n (lo' := [_, _, _, _]) dX4_feed_40 rfl (Nat.le_of_ble_eq_true rfl) rfl rfl ?_
  exact lp_X4_feed_41 b _ k h z hv ez hz K
