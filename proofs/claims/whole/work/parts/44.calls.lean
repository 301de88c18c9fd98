/-! ===== the reference: calls upon the row ===== -/
theorem sp_X5_person_b {g : GG} {h : Hp} {Post : Option Value → Hp → Prop} (hv : Inv h) {n : Nat} {r : Nat → Int32} (R : RM 50 h n r) (k : Int32) (hb : k < 0 ∨ 6 ≤ k) (K : Post (some (.int (-1000000001))) (hfm h 0)) : Sp g mX5_person [.ref 49, .int k] h Post := by
  show Go g mX5_person 0 [_, _] [] _ _ _
  refine ok_iload_n dX5_person_0 rfl rfl ?_
  refine ok_callS (M' := mX5_isKind) (b' := (0, 0)) (As := [_]) dX5_person_1 iX5_isKind w_843 rfl (Nat.le_of_ble_eq_true rfl) ⟨Nat.le_of_ble_eq_true rfl, Nat.le_of_ble_eq_true rfl⟩ (Nat.le_of_ble_eq_true rfl) rfl rfl ?_
  refine sp_X5_isKind _ ?_
  rw [kd_bad5 hb]
  refine ok_if_ne (tgt := 14) dX5_person_4 (by decide) (fun c9 => absurd c9 (fun c => c rfl)) (fun _ => ?_)
  refine ok_aload_n dX5_person_7 rfl rfl ?_
  refine ok_ldc dX5_person_8 w_849 ?_
  refine ok_callV (M' := mX5_finds) (b' := (0, 0)) (As := [_]) (cx := 5) dX5_person_10 iX5_finds w_850 (by decide) rfl (by first | exact is_lit hv (by decide) rfl | exact is_sq hv hq | exact is_row hv hq | exact is_pn hv hq (by assumption) | assumption) rfl (Nat.le_of_ble_eq_true rfl) ⟨Nat.le_of_ble_eq_true rfl, Nat.le_of_ble_eq_true rfl⟩ (Nat.le_of_ble_eq_true rfl) rfl rfl ?_
  refine sp_X5_finds hv (k := 0) (by decide) (by decide) ?_
  refine ok_ireturn dX5_person_13 rfl rfl ?_
  first | exact K | (simp only [↓reduceIte] at K; exact K)
theorem sp_X5_person_f {g : GG} {h : Hp} {Post : Option Value → Hp → Prop} (hv : Inv h) {n : Nat} {r : Nat → Int32} (R : RM 50 h n r) {k : Int32} (hk : Kd k) (h10 : n = 10) (K : Post (some (.int (-1000000002))) (hfm h 1)) : Sp g mX5_person [.ref 49, .int k] h Post := by
  show Go g mX5_person 0 [_, _] [] _ _ _
  refine ok_iload_n dX5_person_0 rfl rfl ?_
  refine ok_callS (M' := mX5_isKind) (b' := (0, 0)) (As := [_]) dX5_person_1 iX5_isKind w_843 rfl (Nat.le_of_ble_eq_true rfl) ⟨Nat.le_of_ble_eq_true rfl, Nat.le_of_ble_eq_true rfl⟩ (Nat.le_of_ble_eq_true rfl) rfl rfl ?_
  refine sp_X5_isKind _ ?_
  rw [kd_ok5 hk]
  refine ok_if_ne (tgt := 14) dX5_person_4 (by decide) (fun _ => ?_) (fun c9 => absurd c9 (by decide))
  refine ok_aload_n dX5_person_14 rfl rfl ?_
  refine ok_getR dX5_person_15 f_X5_7 (by first | exact is_lit hv (by decide) rfl | exact is_sq hv hq | exact is_row hv hq | exact is_pn hv hq (by assumption) | assumption) rfl (by first | exact rf hv rfl | exact rf_row hv hq | assumption) ?_
  refine ok_iconst (v := 0) dX5_person_18 (by decide) ?_
  refine ok_iaload dX5_person_19 (is_lit hv (by decide) rfl) (by unfold vp_in; decide) ?_
  rw [show hI h 50 (Int32.toNatClampNeg 0) = nI n from (R.2.2.1 0 (by decide)).trans R.2.1]
  refine ok_bipush (v := 10) dX5_person_20 (by decide) ?_
  refine ok_icmp_ne (tgt := 32) dX5_person_22 (by decide) (fun c9 => absurd c9 (fun c => c (by rw [h10]; rfl))) (fun _ => ?_)
  refine ok_aload_n dX5_person_25 rfl rfl ?_
  refine ok_ldc dX5_person_26 w_854 ?_
  refine ok_callV (M' := mX5_finds) (b' := (0, 0)) (As := [_]) (cx := 5) dX5_person_28 iX5_finds w_850 (by decide) rfl (by first | exact is_lit hv (by decide) rfl | exact is_sq hv hq | exact is_row hv hq | exact is_pn hv hq (by assumption) | assumption) rfl (Nat.le_of_ble_eq_true rfl) ⟨Nat.le_of_ble_eq_true rfl, Nat.le_of_ble_eq_true rfl⟩ (Nat.le_of_ble_eq_true rfl) rfl rfl ?_
  refine sp_X5_finds hv (k := 1) (by decide) (by decide) ?_
  refine ok_ireturn dX5_person_31 rfl rfl ?_
  first | exact K | (simp only [↓reduceIte] at K; exact K)
theorem sp_X5_person {g : GG} {h : Hp} {Post : Option Value → Hp → Prop} (hv : Inv h) {n : Nat} {r : Nat → Int32} (R : RM 50 h n r) {k : Int32} (hk : Kd k) (h10 : n < 10) (K : ∀ h', QM h h' → RM 50 h' (n + 1) (w_join r n (arrV0 k)) → Post (some (.int (nI n))) h') : Sp g mX5_person [.ref 49, .int k] h Post := by
  show Go g mX5_person 0 [_, _] [] _ _ _
  refine ok_iload_n dX5_person_0 rfl rfl ?_
  refine ok_callS (M' := mX5_isKind) (b' := (0, 0)) (As := [_]) dX5_person_1 iX5_isKind w_843 rfl (Nat.le_of_ble_eq_true rfl) ⟨Nat.le_of_ble_eq_true rfl, Nat.le_of_ble_eq_true rfl⟩ (Nat.le_of_ble_eq_true rfl) rfl rfl ?_
  refine sp_X5_isKind _ ?_
  rw [kd_ok5 hk]
  refine ok_if_ne (tgt := 14) dX5_person_4 (by decide) (fun _ => ?_) (fun c9 => absurd c9 (by decide))
  refine ok_aload_n dX5_person_14 rfl rfl ?_
  refine ok_getR dX5_person_15 f_X5_7 (by first | exact is_lit hv (by decide) rfl | exact is_sq hv hq | exact is_row hv hq | exact is_pn hv hq (by assumption) | assumption) rfl (by first | exact rf hv rfl | exact rf_row hv hq | assumption) ?_
  refine ok_iconst (v := 0) dX5_person_18 (by decide) ?_
  refine ok_iaload dX5_person_19 (is_lit hv (by decide) rfl) (by unfold vp_in; decide) ?_
  rw [show hI h 50 (Int32.toNatClampNeg 0) = nI n from (R.2.2.1 0 (by decide)).trans R.2.1]
  refine ok_bipush (v := 10) dX5_person_20 (by decide) ?_
  refine ok_icmp_ne (tgt := 32) dX5_person_22 (by decide) (fun _ => ?_) (fun c9 => absurd c9 (fun c => by have := (nI_inj2 (b := 10) (by omega) (by omega)).mp c; omega))
  refine ok_aload_n dX5_person_32 rfl rfl ?_
  refine ok_iload_n dX5_person_33 rfl rfl ?_
  refine ok_iconst (v := 5) dX5_person_34 (by decide) ?_
  refine ok_iconst (v := 3) dX5_person_35 (by decide) ?_
  refine ok_iconst (v := 0) dX5_person_36 (by decide) ?_
  refine ok_callV (M' := mX5_addOne) (b' := (0, 0)) (As := [_, _, _, _]) (cx := 5) dX5_person_37 iX5_addOne w_855 (by decide) rfl (by first | exact is_lit hv (by decide) rfl | exact is_sq hv hq | exact is_row hv hq | exact is_pn hv hq (by assumption) | assumption) rfl (Nat.le_of_ble_eq_true rfl) ⟨Nat.le_of_ble_eq_true rfl, Nat.le_of_ble_eq_true rfl⟩ (Nat.le_of_ble_eq_true rfl) rfl rfl ?_
  refine sp_X5_addOne (v := arrV0 k) hv R h10 rfl rfl rfl (fun h1 M1 R1 => ?_)
  have M1 := M1.qm
  have hv := M1.inv hv
  refine ok_aload_n dX5_person_40 rfl rfl ?_
  refine ok_getR dX5_person_41 f_X5_7 (by first | exact is_lit hv (by decide) rfl | exact is_sq hv hq | exact is_row hv hq | exact is_pn hv hq (by assumption) | assumption) rfl (by first | exact rf hv rfl | exact rf_row hv hq | assumption) ?_
  refine ok_iconst (v := 0) dX5_person_44 (by decide) ?_
  refine ok_iaload dX5_person_45 (is_lit hv (by decide) rfl) (by unfold vp_in; decide) ?_
  rw [show hI h1 50 (Int32.toNatClampNeg 0) = nI (n + 1) from (R1.2.2.1 0 (by decide)).trans R1.2.1]
  refine ok_iconst (v := 1) dX5_person_46 (by decide) ?_
  refine ok_isub dX5_person_47 ?_
  rw [nI_p1 (by omega)]
  refine ok_ireturn dX5_person_48 rfl rfl ?_
  exact K h1 M1 R1
theorem sp_X5_of_b {g : GG} {h : Hp} {Post : Option Value → Hp → Prop} (hv : Inv h) {n : Nat} {r : Nat → Int32} (R : RM 50 h n r) (p w : Int32) (hb : p < 0 ∨ nI n ≤ p) (K : Post (some (.int (-1000000001))) (hfm h 0)) : Sp g mX5_of [.ref 49, .int p, .int w] h Post := by
  show Go g mX5_of 0 [_, _, _] [] _ _ _
  refine ok_aload_n dX5_of_0 rfl rfl ?_
  refine ok_iload_n dX5_of_1 rfl rfl ?_
  refine ok_callV (M' := mX5_isOne) (b' := (0, 0)) (As := [_]) (cx := 5) dX5_of_2 iX5_isOne w_867 (by decide) rfl (by first | exact is_lit hv (by decide) rfl | exact is_sq hv hq | exact is_row hv hq | exact is_pn hv hq (by assumption) | assumption) rfl (Nat.le_of_ble_eq_true rfl) ⟨Nat.le_of_ble_eq_true rfl, Nat.le_of_ble_eq_true rfl⟩ (Nat.le_of_ble_eq_true rfl) rfl rfl ?_
  refine sp_X5_isOne hv R _ ?_
  rw [one_bad R.1 hb]
  refine ok_if_eq (tgt := 18) dX5_of_5 (by decide) (fun _ => ?_) (fun c9 => absurd rfl c9)
  refine ok_aload_n dX5_of_18 rfl rfl ?_
  refine ok_ldc dX5_of_19 w_849 ?_
  refine ok_callV (M' := mX5_finds) (b' := (0, 0)) (As := [_]) (cx := 5) dX5_of_21 iX5_finds w_850 (by decide) rfl (by first | exact is_lit hv (by decide) rfl | exact is_sq hv hq | exact is_row hv hq | exact is_pn hv hq (by assumption) | assumption) rfl (Nat.le_of_ble_eq_true rfl) ⟨Nat.le_of_ble_eq_true rfl, Nat.le_of_ble_eq_true rfl⟩ (Nat.le_of_ble_eq_true rfl) rfl rfl ?_
  refine sp_X5_finds hv (k := 0) (by decide) (by decide) ?_
  refine ok_ireturn dX5_of_24 rfl rfl ?_
  first | exact K | (simp only [↓reduceIte] at K; exact K)
theorem in_bad {v l u : Int32} (hb : v < l ∨ u < v) : (if v < l then (0 : Int32) else if u < v then 0 else 1) = 0 := wi_bad hb
theorem out_i {w : Int32} {u : Nat} {x : Int32} (hx : x.toInt = u) (hw : w.toInt < 0 ∨ (u : Int) < w.toInt) : w < 0 ∨ x < w := by
  rw [i_lt, i_lt, hx]
  exact hw
theorem sp_X5_of_w {g : GG} {h : Hp} {Post : Option Value → Hp → Prop} (hv : Inv h) {n : Nat} {r : Nat → Int32} (R : RM 50 h n r) {j : Nat} (hj : j < n) {w : Int32} (hw : w.toInt < 0 ∨ 9 < w.toInt) (K : Post (some (.int (-1000000001))) (hfm h 0)) : Sp g mX5_of [.ref 49, .int (nI j), .int w] h Post := by
  show Go g mX5_of 0 [_, _, _] [] _ _ _
  refine ok_aload_n dX5_of_0 rfl rfl ?_
  refine ok_iload_n dX5_of_1 rfl rfl ?_
  refine ok_callV (M' := mX5_isOne) (b' := (0, 0)) (As := [_]) (cx := 5) dX5_of_2 iX5_isOne w_867 (by decide) rfl (by first | exact is_lit hv (by decide) rfl | exact is_sq hv hq | exact is_row hv hq | exact is_pn hv hq (by assumption) | assumption) rfl (Nat.le_of_ble_eq_true rfl) ⟨Nat.le_of_ble_eq_true rfl, Nat.le_of_ble_eq_true rfl⟩ (Nat.le_of_ble_eq_true rfl) rfl rfl ?_
  refine sp_X5_isOne hv R _ ?_
  rw [one_ok R.1 hj]
  refine ok_if_eq (tgt := 18) dX5_of_5 (by decide) (fun c9 => absurd c9 (by decide)) (fun _ => ?_)
  refine ok_iload_n dX5_of_8 rfl rfl ?_
  refine ok_iconst (v := 0) dX5_of_9 (by decide) ?_
  refine ok_bipush (v := 9) dX5_of_10 (by decide) ?_
  refine ok_callS (M' := mX5_in) (b' := (0, 0)) (As := [_, _, _]) dX5_of_12 iX5_in w_846 rfl (Nat.le_of_ble_eq_true rfl) ⟨Nat.le_of_ble_eq_true rfl, Nat.le_of_ble_eq_true rfl⟩ (Nat.le_of_ble_eq_true rfl) rfl rfl ?_
  refine sp_X5_in _ _ _ ?_
  rw [in_bad (out_i (u := 9) rfl hw)]
  refine ok_if_ne (tgt := 25) dX5_of_15 (by decide) (fun c9 => absurd c9 (fun c => c rfl)) (fun _ => ?_)
  refine ok_aload_n dX5_of_18 rfl rfl ?_
  refine ok_ldc dX5_of_19 w_849 ?_
  refine ok_callV (M' := mX5_finds) (b' := (0, 0)) (As := [_]) (cx := 5) dX5_of_21 iX5_finds w_850 (by decide) rfl (by first | exact is_lit hv (by decide) rfl | exact is_sq hv hq | exact is_row hv hq | exact is_pn hv hq (by assumption) | assumption) rfl (Nat.le_of_ble_eq_true rfl) ⟨Nat.le_of_ble_eq_true rfl, Nat.le_of_ble_eq_true rfl⟩ (Nat.le_of_ble_eq_true rfl) rfl rfl ?_
  refine sp_X5_finds hv (k := 0) (by decide) (by decide) ?_
  refine ok_ireturn dX5_of_24 rfl rfl ?_
  first | exact K | (simp only [↓reduceIte] at K; exact K)
theorem sp_X5_of {g : GG} {h : Hp} {Post : Option Value → Hp → Prop} (hv : Inv h) {n : Nat} {r : Nat → Int32} (R : RM 50 h n r) (G : RG r n) {j : Nat} (hj : j < n) {w : Nat} (hw : w < 10) (K : Post (some (.int (w_of r j w))) h) : Sp g mX5_of [.ref 49, .int (nI j), .int (nI w)] h Post := by
  show Go g mX5_of 0 [_, _, _] [] _ _ _
  have hn := R.1
  by_cases c1 : w < 7
  · refine ok_aload_n dX5_of_0 rfl rfl ?_
    refine ok_iload_n dX5_of_1 rfl rfl ?_
    refine ok_callV (M' := mX5_isOne) (b' := (0, 0)) (As := [_]) (cx := 5) dX5_of_2 iX5_isOne w_867 (by decide) rfl (by first | exact is_lit hv (by decide) rfl | exact is_sq hv hq | exact is_row hv hq | exact is_pn hv hq (by assumption) | assumption) rfl (Nat.le_of_ble_eq_true rfl) ⟨Nat.le_of_ble_eq_true rfl, Nat.le_of_ble_eq_true rfl⟩ (Nat.le_of_ble_eq_true rfl) rfl rfl ?_
    refine sp_X5_isOne hv R _ ?_
    rw [one_ok R.1 hj]
    refine ok_if_eq (tgt := 18) dX5_of_5 (by decide) (fun c9 => absurd c9 (by decide)) (fun _ => ?_)
    refine ok_iload_n dX5_of_8 rfl rfl ?_
    refine ok_iconst (v := 0) dX5_of_9 (by decide) ?_
    refine ok_bipush (v := 9) dX5_of_10 (by decide) ?_
    refine ok_callS (M' := mX5_in) (b' := (0, 0)) (As := [_, _, _]) dX5_of_12 iX5_in w_846 rfl (Nat.le_of_ble_eq_true rfl) ⟨Nat.le_of_ble_eq_true rfl, Nat.le_of_ble_eq_true rfl⟩ (Nat.le_of_ble_eq_true rfl) rfl rfl ?_
    refine sp_X5_in _ _ _ ?_
    rw [wi_ok (v := nI w) (l := 0) (u := 9) (nI_pos (by omega)) (nI_nlt (a := 9) (b := w) (by omega) (by omega))]
    refine ok_if_ne (tgt := 25) dX5_of_15 (by decide) (fun _ => ?_) (fun c9 => absurd c9 (by decide))
    refine ok_iload_n dX5_of_25 rfl rfl ?_
    refine ok_bipush (v := 7) dX5_of_26 (by decide) ?_
    refine ok_icmp_ge (tgt := 40) dX5_of_28 (by decide) (fun c9 => absurd c9 (nI_ge (show w < 7 from c1) (by decide))) (fun _ => ?_)
    refine ok_aload_n dX5_of_31 rfl rfl ?_
    refine ok_iload_n dX5_of_32 rfl rfl ?_
    refine ok_iload_n dX5_of_33 rfl rfl ?_
    refine ok_callV (M' := mX5_its) (b' := (0, 0)) (As := [_, _]) (cx := 5) dX5_of_34 iX5_its w_871 (by decide) rfl (by first | exact is_lit hv (by decide) rfl | exact is_sq hv hq | exact is_row hv hq | exact is_pn hv hq (by assumption) | assumption) rfl (Nat.le_of_ble_eq_true rfl) ⟨Nat.le_of_ble_eq_true rfl, Nat.le_of_ble_eq_true rfl⟩ (Nat.le_of_ble_eq_true rfl) rfl rfl ?_
    refine sp_X5_its hv R hj c1 ?_
    refine ok_goto (tgt := 92) dX5_of_37 (by decide) ?_
    refine ok_ireturn dX5_of_92 rfl rfl ?_
    rw [show w_of r j w = ro r j w from if_pos c1] at K
    exact K
  · rcases (show w = 7 ∨ w = 8 ∨ w = 9 by omega) with rfl | rfl | rfl
    · refine ok_aload_n dX5_of_0 rfl rfl ?_
      refine ok_iload_n dX5_of_1 rfl rfl ?_
      refine ok_callV (M' := mX5_isOne) (b' := (0, 0)) (As := [_]) (cx := 5) dX5_of_2 iX5_isOne w_867 (by decide) rfl (by first | exact is_lit hv (by decide) rfl | exact is_sq hv hq | exact is_row hv hq | exact is_pn hv hq (by assumption) | assumption) rfl (Nat.le_of_ble_eq_true rfl) ⟨Nat.le_of_ble_eq_true rfl, Nat.le_of_ble_eq_true rfl⟩ (Nat.le_of_ble_eq_true rfl) rfl rfl ?_
      refine sp_X5_isOne hv R _ ?_
      rw [one_ok R.1 hj]
      refine ok_if_eq (tgt := 18) dX5_of_5 (by decide) (fun c9 => absurd c9 (by decide)) (fun _ => ?_)
      refine ok_iload_n dX5_of_8 rfl rfl ?_
      refine ok_iconst (v := 0) dX5_of_9 (by decide) ?_
      refine ok_bipush (v := 9) dX5_of_10 (by decide) ?_
      refine ok_callS (M' := mX5_in) (b' := (0, 0)) (As := [_, _, _]) dX5_of_12 iX5_in w_846 rfl (Nat.le_of_ble_eq_true rfl) ⟨Nat.le_of_ble_eq_true rfl, Nat.le_of_ble_eq_true rfl⟩ (Nat.le_of_ble_eq_true rfl) rfl rfl ?_
      refine sp_X5_in _ _ _ ?_
      refine ok_if_ne (tgt := 25) dX5_of_15 (by decide) (fun _ => ?_) (fun c9 => absurd c9 (by decide))
      refine ok_iload_n dX5_of_25 rfl rfl ?_
      refine ok_bipush (v := 7) dX5_of_26 (by decide) ?_
      refine ok_icmp_ge (tgt := 40) dX5_of_28 (by decide) (fun _ => ?_) (fun c9 => absurd (by decide) c9)
      refine ok_iload_n dX5_of_40 rfl rfl ?_
      refine ok_bipush (v := 7) dX5_of_41 (by decide) ?_
      refine ok_icmp_ne (tgt := 60) dX5_of_43 (by decide) (fun c9 => absurd c9 (fun c => c rfl)) (fun _ => ?_)
      refine ok_aload_n dX5_of_46 rfl rfl ?_
      refine ok_iload_n dX5_of_47 rfl rfl ?_
      refine ok_aload_n dX5_of_48 rfl rfl ?_
      refine ok_getR dX5_of_49 f_X5_7 (by first | exact is_lit hv (by decide) rfl | exact is_sq hv hq | exact is_row hv hq | exact is_pn hv hq (by assumption) | assumption) rfl (by first | exact rf hv rfl | exact rf_row hv hq | assumption) ?_
      refine ok_iconst (v := 1) dX5_of_52 (by decide) ?_
      refine ok_iaload dX5_of_53 (is_lit hv (by decide) rfl) (by unfold vp_in; decide) ?_
      rw [show hI h 50 (Int32.toNatClampNeg 1) = r 1 from R.2.2.1 1 (by decide)]
      refine ok_callV (M' := mX5_thinks) (b' := (0, 0)) (As := [_, _]) (cx := 5) dX5_of_54 iX5_thinks w_875 (by decide) rfl (by first | exact is_lit hv (by decide) rfl | exact is_sq hv hq | exact is_row hv hq | exact is_pn hv hq (by assumption) | assumption) rfl (Nat.le_of_ble_eq_true rfl) ⟨Nat.le_of_ble_eq_true rfl, Nat.le_of_ble_eq_true rfl⟩ (Nat.le_of_ble_eq_true rfl) rfl rfl ?_
      refine sp_X5_thinks hv R hj _ ?_
      refine ok_goto (tgt := 92) dX5_of_57 (by decide) ?_
      refine ok_ireturn dX5_of_92 rfl rfl ?_
      exact K
    · refine ok_aload_n dX5_of_0 rfl rfl ?_
      refine ok_iload_n dX5_of_1 rfl rfl ?_
      refine ok_callV (M' := mX5_isOne) (b' := (0, 0)) (As := [_]) (cx := 5) dX5_of_2 iX5_isOne w_867 (by decide) rfl (by first | exact is_lit hv (by decide) rfl | exact is_sq hv hq | exact is_row hv hq | exact is_pn hv hq (by assumption) | assumption) rfl (Nat.le_of_ble_eq_true rfl) ⟨Nat.le_of_ble_eq_true rfl, Nat.le_of_ble_eq_true rfl⟩ (Nat.le_of_ble_eq_true rfl) rfl rfl ?_
      refine sp_X5_isOne hv R _ ?_
      rw [one_ok R.1 hj]
      refine ok_if_eq (tgt := 18) dX5_of_5 (by decide) (fun c9 => absurd c9 (by decide)) (fun _ => ?_)
      refine ok_iload_n dX5_of_8 rfl rfl ?_
      refine ok_iconst (v := 0) dX5_of_9 (by decide) ?_
      refine ok_bipush (v := 9) dX5_of_10 (by decide) ?_
      refine ok_callS (M' := mX5_in) (b' := (0, 0)) (As := [_, _, _]) dX5_of_12 iX5_in w_846 rfl (Nat.le_of_ble_eq_true rfl) ⟨Nat.le_of_ble_eq_true rfl, Nat.le_of_ble_eq_true rfl⟩ (Nat.le_of_ble_eq_true rfl) rfl rfl ?_
      refine sp_X5_in _ _ _ ?_
      refine ok_if_ne (tgt := 25) dX5_of_15 (by decide) (fun _ => ?_) (fun c9 => absurd c9 (by decide))
      refine ok_iload_n dX5_of_25 rfl rfl ?_
      refine ok_bipush (v := 7) dX5_of_26 (by decide) ?_
      refine ok_icmp_ge (tgt := 40) dX5_of_28 (by decide) (fun _ => ?_) (fun c9 => absurd (by decide) c9)
      refine ok_iload_n dX5_of_40 rfl rfl ?_
      refine ok_bipush (v := 7) dX5_of_41 (by decide) ?_
      refine ok_icmp_ne (tgt := 60) dX5_of_43 (by decide) (fun _ => ?_) (fun c9 => absurd c9 (by decide))
      refine ok_iload_n dX5_of_60 rfl rfl ?_
      refine ok_bipush (v := 8) dX5_of_61 (by decide) ?_
      refine ok_icmp_ne (tgt := 81) dX5_of_63 (by decide) (fun c9 => absurd c9 (fun c => c rfl)) (fun _ => ?_)
      refine ok_aload_n dX5_of_66 rfl rfl ?_
      refine ok_iload_n dX5_of_67 rfl rfl ?_
      refine ok_iload_n dX5_of_68 rfl rfl ?_
      refine ok_aload_n dX5_of_69 rfl rfl ?_
      refine ok_getR dX5_of_70 f_X5_7 (by first | exact is_lit hv (by decide) rfl | exact is_sq hv hq | exact is_row hv hq | exact is_pn hv hq (by assumption) | assumption) rfl (by first | exact rf hv rfl | exact rf_row hv hq | assumption) ?_
      refine ok_iconst (v := 1) dX5_of_73 (by decide) ?_
      refine ok_iaload dX5_of_74 (is_lit hv (by decide) rfl) (by unfold vp_in; decide) ?_
      rw [show hI h 50 (Int32.toNatClampNeg 1) = r 1 from R.2.2.1 1 (by decide)]
      refine ok_callV (M' := mX5_shortAs) (b' := (0, 0)) (As := [_, _, _]) (cx := 5) dX5_of_75 iX5_shortAs w_879 (by decide) rfl (by first | exact is_lit hv (by decide) rfl | exact is_sq hv hq | exact is_row hv hq | exact is_pn hv hq (by assumption) | assumption) rfl (Nat.le_of_ble_eq_true rfl) ⟨Nat.le_of_ble_eq_true rfl, Nat.le_of_ble_eq_true rfl⟩ (Nat.le_of_ble_eq_true rfl) rfl rfl ?_
      refine sp_X5_shortAs hv R hj _ _ ?_
      refine ok_goto (tgt := 92) dX5_of_78 (by decide) ?_
      refine ok_ireturn dX5_of_92 rfl rfl ?_
      exact K
    · refine ok_aload_n dX5_of_0 rfl rfl ?_
      refine ok_iload_n dX5_of_1 rfl rfl ?_
      refine ok_callV (M' := mX5_isOne) (b' := (0, 0)) (As := [_]) (cx := 5) dX5_of_2 iX5_isOne w_867 (by decide) rfl (by first | exact is_lit hv (by decide) rfl | exact is_sq hv hq | exact is_row hv hq | exact is_pn hv hq (by assumption) | assumption) rfl (Nat.le_of_ble_eq_true rfl) ⟨Nat.le_of_ble_eq_true rfl, Nat.le_of_ble_eq_true rfl⟩ (Nat.le_of_ble_eq_true rfl) rfl rfl ?_
      refine sp_X5_isOne hv R _ ?_
      rw [one_ok R.1 hj]
      refine ok_if_eq (tgt := 18) dX5_of_5 (by decide) (fun c9 => absurd c9 (by decide)) (fun _ => ?_)
      refine ok_iload_n dX5_of_8 rfl rfl ?_
      refine ok_iconst (v := 0) dX5_of_9 (by decide) ?_
      refine ok_bipush (v := 9) dX5_of_10 (by decide) ?_
      refine ok_callS (M' := mX5_in) (b' := (0, 0)) (As := [_, _, _]) dX5_of_12 iX5_in w_846 rfl (Nat.le_of_ble_eq_true rfl) ⟨Nat.le_of_ble_eq_true rfl, Nat.le_of_ble_eq_true rfl⟩ (Nat.le_of_ble_eq_true rfl) rfl rfl ?_
      refine sp_X5_in _ _ _ ?_
      refine ok_if_ne (tgt := 25) dX5_of_15 (by decide) (fun _ => ?_) (fun c9 => absurd c9 (by decide))
      refine ok_iload_n dX5_of_25 rfl rfl ?_
      refine ok_bipush (v := 7) dX5_of_26 (by decide) ?_
      refine ok_icmp_ge (tgt := 40) dX5_of_28 (by decide) (fun _ => ?_) (fun c9 => absurd (by decide) c9)
      refine ok_iload_n dX5_of_40 rfl rfl ?_
      refine ok_bipush (v := 7) dX5_of_41 (by decide) ?_
      refine ok_icmp_ne (tgt := 60) dX5_of_43 (by decide) (fun _ => ?_) (fun c9 => absurd c9 (by decide))
      refine ok_iload_n dX5_of_60 rfl rfl ?_
      refine ok_bipush (v := 8) dX5_of_61 (by decide) ?_
      refine ok_icmp_ne (tgt := 81) dX5_of_63 (by decide) (fun _ => ?_) (fun c9 => absurd c9 (by decide))
      refine ok_aload_n dX5_of_81 rfl rfl ?_
      refine ok_iload_n dX5_of_82 rfl rfl ?_
      refine ok_aload_n dX5_of_83 rfl rfl ?_
      refine ok_getR dX5_of_84 f_X5_7 (by first | exact is_lit hv (by decide) rfl | exact is_sq hv hq | exact is_row hv hq | exact is_pn hv hq (by assumption) | assumption) rfl (by first | exact rf hv rfl | exact rf_row hv hq | assumption) ?_
      refine ok_iconst (v := 1) dX5_of_87 (by decide) ?_
      refine ok_iaload dX5_of_88 (is_lit hv (by decide) rfl) (by unfold vp_in; decide) ?_
      rw [show hI h 50 (Int32.toNatClampNeg 1) = r 1 from R.2.2.1 1 (by decide)]
      refine ok_callV (M' := mX5_would) (b' := (0, 0)) (As := [_, _]) (cx := 5) dX5_of_89 iX5_would w_883 (by decide) rfl (by first | exact is_lit hv (by decide) rfl | exact is_sq hv hq | exact is_row hv hq | exact is_pn hv hq (by assumption) | assumption) rfl (Nat.le_of_ble_eq_true rfl) ⟨Nat.le_of_ble_eq_true rfl, Nat.le_of_ble_eq_true rfl⟩ (Nat.le_of_ble_eq_true rfl) rfl rfl ?_
      refine sp_X5_would hv R G hj _ ?_
      refine ok_ireturn dX5_of_92 rfl rfl ?_
      exact K
theorem lp_X5_set_0 {g : GG} {h : Hp} {Post : Option Value → Hp → Prop} (p what v : Int32) (K : Go g mX5_set 43 [some (.ref 49), some (.int p), some (.int what), some (.int v), some (.int (w_may what v)), none] [] h (0, 0) Post) : Go g mX5_set 0 [some (.ref 49), some (.int p), some (.int what), some (.int v), none, none] [] h (0, 0) Post := by
  unfold w_may at K
  refine ok_iload_n dX5_set_0 rfl rfl ?_
  refine ok_iconst (v := 1) dX5_set_1 (by decide) ?_
  refine ok_icmp_ne (tgt := 16) dX5_set_2 (by decide) (fun c_2 => ?_) (fun c_2 => ?_)
  · refine ok_iload_n dX5_set_16 rfl rfl ?_
    refine ok_iconst (v := 2) dX5_set_17 (by decide) ?_
    refine ok_icmp_eq (tgt := 26) dX5_set_18 (by decide) (fun c_18 => ?_) (fun c_18 => ?_)
    · refine ok_iload_n dX5_set_26 rfl rfl ?_
      refine ok_iconst (v := 0) dX5_set_27 (by decide) ?_
      refine ok_bipush (v := 99) dX5_set_28 (by decide) ?_
      refine ok_callS (M' := mX5_in) (b' := (0, 0)) (As := [_, _, _]) dX5_set_30 iX5_in w_846 rfl (Nat.le_of_ble_eq_true rfl) ⟨Nat.le_of_ble_eq_true rfl, Nat.le_of_ble_eq_true rfl⟩ (Nat.le_of_ble_eq_true rfl) rfl rfl ?_
      refine sp_X5_in _ _ _ ?_
      refine ok_if_eq (tgt := 40) dX5_set_33 (by decide) (fun c_33 => ?_) (fun c_33 => ?_)
      · refine ok_iconst (v := 0) dX5_set_40 (by decide) ?_
        refine ok_istore (lo' := [_, _, _, _, _, _]) dX5_set_41 (Nat.le_of_ble_eq_true rfl) rfl rfl ?_
        first
          | (rw [if_pos c_2] at K; exact K)
          | (rw [if_neg c_2, if_pos (Or.inl c_18)] at K; rw [c_33] at K; exact K)
          | (rw [if_neg c_2, if_pos (Or.inr c_23)] at K; rw [c_33] at K; exact K)
          | (rw [if_neg c_2, if_pos (Or.inl c_18)] at K; rw [(b01_in v 0 99).resolve_left c_33] at K; exact K)
          | (rw [if_neg c_2, if_pos (Or.inr c_23)] at K; rw [(b01_in v 0 99).resolve_left c_33] at K; exact K)
          | (rw [if_neg c_2, if_neg (fun z => z.elim c_18 c_23)] at K; exact K)
      · refine ok_iconst (v := 1) dX5_set_36 (by decide) ?_
        refine ok_goto (tgt := 41) dX5_set_37 (by decide) ?_
        refine ok_istore (lo' := [_, _, _, _, _, _]) dX5_set_41 (Nat.le_of_ble_eq_true rfl) rfl rfl ?_
        first
          | (rw [if_pos c_2] at K; exact K)
          | (rw [if_neg c_2, if_pos (Or.inl c_18)] at K; rw [c_33] at K; exact K)
          | (rw [if_neg c_2, if_pos (Or.inr c_23)] at K; rw [c_33] at K; exact K)
          | (rw [if_neg c_2, if_pos (Or.inl c_18)] at K; rw [(b01_in v 0 99).resolve_left c_33] at K; exact K)
          | (rw [if_neg c_2, if_pos (Or.inr c_23)] at K; rw [(b01_in v 0 99).resolve_left c_33] at K; exact K)
          | (rw [if_neg c_2, if_neg (fun z => z.elim c_18 c_23)] at K; exact K)
    · refine ok_iload_n dX5_set_21 rfl rfl ?_
      refine ok_iconst (v := 3) dX5_set_22 (by decide) ?_
      refine ok_icmp_ne (tgt := 40) dX5_set_23 (by decide) (fun c_23 => ?_) (fun c_23 => ?_)
      · refine ok_iconst (v := 0) dX5_set_40 (by decide) ?_
        refine ok_istore (lo' := [_, _, _, _, _, _]) dX5_set_41 (Nat.le_of_ble_eq_true rfl) rfl rfl ?_
        first
          | (rw [if_pos c_2] at K; exact K)
          | (rw [if_neg c_2, if_pos (Or.inl c_18)] at K; rw [c_33] at K; exact K)
          | (rw [if_neg c_2, if_pos (Or.inr c_23)] at K; rw [c_33] at K; exact K)
          | (rw [if_neg c_2, if_pos (Or.inl c_18)] at K; rw [(b01_in v 0 99).resolve_left c_33] at K; exact K)
          | (rw [if_neg c_2, if_pos (Or.inr c_23)] at K; rw [(b01_in v 0 99).resolve_left c_33] at K; exact K)
          | (rw [if_neg c_2, if_neg (fun z => z.elim c_18 c_23)] at K; exact K)
      · refine ok_iload_n dX5_set_26 rfl rfl ?_
        refine ok_iconst (v := 0) dX5_set_27 (by decide) ?_
        refine ok_bipush (v := 99) dX5_set_28 (by decide) ?_
        refine ok_callS (M' := mX5_in) (b' := (0, 0)) (As := [_, _, _]) dX5_set_30 iX5_in w_846 rfl (Nat.le_of_ble_eq_true rfl) ⟨Nat.le_of_ble_eq_true rfl, Nat.le_of_ble_eq_true rfl⟩ (Nat.le_of_ble_eq_true rfl) rfl rfl ?_
        refine sp_X5_in _ _ _ ?_
        refine ok_if_eq (tgt := 40) dX5_set_33 (by decide) (fun c_33 => ?_) (fun c_33 => ?_)
        · refine ok_iconst (v := 0) dX5_set_40 (by decide) ?_
          refine ok_istore (lo' := [_, _, _, _, _, _]) dX5_set_41 (Nat.le_of_ble_eq_true rfl) rfl rfl ?_
          first
            | (rw [if_pos c_2] at K; exact K)
            | (rw [if_neg c_2, if_pos (Or.inl c_18)] at K; rw [c_33] at K; exact K)
            | (rw [if_neg c_2, if_pos (Or.inr c_23)] at K; rw [c_33] at K; exact K)
            | (rw [if_neg c_2, if_pos (Or.inl c_18)] at K; rw [(b01_in v 0 99).resolve_left c_33] at K; exact K)
            | (rw [if_neg c_2, if_pos (Or.inr c_23)] at K; rw [(b01_in v 0 99).resolve_left c_33] at K; exact K)
            | (rw [if_neg c_2, if_neg (fun z => z.elim c_18 c_23)] at K; exact K)
        · refine ok_iconst (v := 1) dX5_set_36 (by decide) ?_
          refine ok_goto (tgt := 41) dX5_set_37 (by decide) ?_
          refine ok_istore (lo' := [_, _, _, _, _, _]) dX5_set_41 (Nat.le_of_ble_eq_true rfl) rfl rfl ?_
          first
            | (rw [if_pos c_2] at K; exact K)
            | (rw [if_neg c_2, if_pos (Or.inl c_18)] at K; rw [c_33] at K; exact K)
            | (rw [if_neg c_2, if_pos (Or.inr c_23)] at K; rw [c_33] at K; exact K)
            | (rw [if_neg c_2, if_pos (Or.inl c_18)] at K; rw [(b01_in v 0 99).resolve_left c_33] at K; exact K)
            | (rw [if_neg c_2, if_pos (Or.inr c_23)] at K; rw [(b01_in v 0 99).resolve_left c_33] at K; exact K)
            | (rw [if_neg c_2, if_neg (fun z => z.elim c_18 c_23)] at K; exact K)
  · refine ok_iload_n dX5_set_5 rfl rfl ?_
    refine ok_iconst (v := 0) dX5_set_6 (by decide) ?_
    refine ok_sipush (v := 999) dX5_set_7 (by decide) ?_
    refine ok_callS (M' := mX5_in) (b' := (0, 0)) (As := [_, _, _]) dX5_set_10 iX5_in w_846 rfl (Nat.le_of_ble_eq_true rfl) ⟨Nat.le_of_ble_eq_true rfl, Nat.le_of_ble_eq_true rfl⟩ (Nat.le_of_ble_eq_true rfl) rfl rfl ?_
    refine sp_X5_in _ _ _ ?_
    refine ok_goto (tgt := 41) dX5_set_13 (by decide) ?_
    refine ok_istore (lo' := [_, _, _, _, _, _]) dX5_set_41 (Nat.le_of_ble_eq_true rfl) rfl rfl ?_
    first
      | (rw [if_pos c_2] at K; exact K)
      | (rw [if_neg c_2, if_pos (Or.inl c_18)] at K; rw [c_33] at K; exact K)
      | (rw [if_neg c_2, if_pos (Or.inr c_23)] at K; rw [c_33] at K; exact K)
      | (rw [if_neg c_2, if_pos (Or.inl c_18)] at K; rw [(b01_in v 0 99).resolve_left c_33] at K; exact K)
      | (rw [if_neg c_2, if_pos (Or.inr c_23)] at K; rw [(b01_in v 0 99).resolve_left c_33] at K; exact K)
      | (rw [if_neg c_2, if_neg (fun z => z.elim c_18 c_23)] at K; exact K)
theorem sp_X5_set_b {g : GG} {h : Hp} {Post : Option Value → Hp → Prop} (hv : Inv h) {n : Nat} {r : Nat → Int32} (R : RM 50 h n r) (p w v : Int32) (hb : p < 0 ∨ nI n ≤ p) (K : Post (some (.int (-1000000001))) (hfm h 0)) : Sp g mX5_set [.ref 49, .int p, .int w, .int v] h Post := by
  show Go g mX5_set 0 [_, _, _, _, _, _] [] _ _ _
  refine lp_X5_set_0 _ _ _ ?_
  refine ok_aload_n dX5_set_43 rfl rfl ?_
  refine ok_iload_n dX5_set_44 rfl rfl ?_
  refine ok_callV (M' := mX5_isOne) (b' := (0, 0)) (As := [_]) (cx := 5) dX5_set_45 iX5_isOne w_867 (by decide) rfl (by first | exact is_lit hv (by decide) rfl | exact is_sq hv hq | exact is_row hv hq | exact is_pn hv hq (by assumption) | assumption) rfl (Nat.le_of_ble_eq_true rfl) ⟨Nat.le_of_ble_eq_true rfl, Nat.le_of_ble_eq_true rfl⟩ (Nat.le_of_ble_eq_true rfl) rfl rfl ?_
  refine sp_X5_isOne hv R _ ?_
  rw [one_bad R.1 hb]
  refine ok_if_eq (tgt := 56) dX5_set_48 (by decide) (fun _ => ?_) (fun c9 => absurd rfl c9)
  refine ok_aload_n dX5_set_56 rfl rfl ?_
  refine ok_ldc dX5_set_57 w_849 ?_
  refine ok_callV (M' := mX5_finds) (b' := (0, 0)) (As := [_]) (cx := 5) dX5_set_59 iX5_finds w_850 (by decide) rfl (by first | exact is_lit hv (by decide) rfl | exact is_sq hv hq | exact is_row hv hq | exact is_pn hv hq (by assumption) | assumption) rfl (Nat.le_of_ble_eq_true rfl) ⟨Nat.le_of_ble_eq_true rfl, Nat.le_of_ble_eq_true rfl⟩ (Nat.le_of_ble_eq_true rfl) rfl rfl ?_
  refine sp_X5_finds hv (k := 0) (by decide) (by decide) ?_
  refine ok_ireturn dX5_set_62 rfl rfl ?_
  first | exact K | (simp only [↓reduceIte] at K; exact K)
theorem sp_X5_set_w {g : GG} {h : Hp} {Post : Option Value → Hp → Prop} (hv : Inv h) {n : Nat} {r : Nat → Int32} (R : RM 50 h n r) {j : Nat} (hj : j < n) {w v : Int32} (hm : w_may w v = 0) (K : Post (some (.int (-1000000001))) (hfm h 0)) : Sp g mX5_set [.ref 49, .int (nI j), .int w, .int v] h Post := by
  show Go g mX5_set 0 [_, _, _, _, _, _] [] _ _ _
  refine lp_X5_set_0 _ _ _ ?_
  refine ok_aload_n dX5_set_43 rfl rfl ?_
  refine ok_iload_n dX5_set_44 rfl rfl ?_
  refine ok_callV (M' := mX5_isOne) (b' := (0, 0)) (As := [_]) (cx := 5) dX5_set_45 iX5_isOne w_867 (by decide) rfl (by first | exact is_lit hv (by decide) rfl | exact is_sq hv hq | exact is_row hv hq | exact is_pn hv hq (by assumption) | assumption) rfl (Nat.le_of_ble_eq_true rfl) ⟨Nat.le_of_ble_eq_true rfl, Nat.le_of_ble_eq_true rfl⟩ (Nat.le_of_ble_eq_true rfl) rfl rfl ?_
  refine sp_X5_isOne hv R _ ?_
  rw [one_ok R.1 hj]
  refine ok_if_eq (tgt := 56) dX5_set_48 (by decide) (fun c9 => absurd c9 (by decide)) (fun _ => ?_)
  refine ok_iload dX5_set_51 rfl ?_
  rw [hm]
  refine ok_if_ne (tgt := 63) dX5_set_53 (by decide) (fun c9 => absurd c9 (fun c => c rfl)) (fun _ => ?_)
  refine ok_aload_n dX5_set_56 rfl rfl ?_
  refine ok_ldc dX5_set_57 w_849 ?_
  refine ok_callV (M' := mX5_finds) (b' := (0, 0)) (As := [_]) (cx := 5) dX5_set_59 iX5_finds w_850 (by decide) rfl (by first | exact is_lit hv (by decide) rfl | exact is_sq hv hq | exact is_row hv hq | exact is_pn hv hq (by assumption) | assumption) rfl (Nat.le_of_ble_eq_true rfl) ⟨Nat.le_of_ble_eq_true rfl, Nat.le_of_ble_eq_true rfl⟩ (Nat.le_of_ble_eq_true rfl) rfl rfl ?_
  refine sp_X5_finds hv (k := 0) (by decide) (by decide) ?_
  refine ok_ireturn dX5_set_62 rfl rfl ?_
  first | exact K | (simp only [↓reduceIte] at K; exact K)
theorem sp_X5_set {g : GG} {h : Hp} {Post : Option Value → Hp → Prop} (hv : Inv h) {n : Nat} {r : Nat → Int32} (R : RM 50 h n r) {j : Nat} (hj : j < n) {w : Nat} {v : Int32} (hw : w = 1 ∨ w = 2 ∨ w = 3) (hm : w_may (nI w) v = 1) (K : ∀ h', QM h h' → RM 50 h' (n) (w_set r (7 + 7 * j + w) v) → Post (some (.int (ro r j w))) h') : Sp g mX5_set [.ref 49, .int (nI j), .int (nI w), .int v] h Post := by
  show Go g mX5_set 0 [_, _, _, _, _, _] [] _ _ _
  refine lp_X5_set_0 _ _ _ ?_
  refine ok_aload_n dX5_set_43 rfl rfl ?_
  refine ok_iload_n dX5_set_44 rfl rfl ?_
  refine ok_callV (M' := mX5_isOne) (b' := (0, 0)) (As := [_]) (cx := 5) dX5_set_45 iX5_isOne w_867 (by decide) rfl (by first | exact is_lit hv (by decide) rfl | exact is_sq hv hq | exact is_row hv hq | exact is_pn hv hq (by assumption) | assumption) rfl (Nat.le_of_ble_eq_true rfl) ⟨Nat.le_of_ble_eq_true rfl, Nat.le_of_ble_eq_true rfl⟩ (Nat.le_of_ble_eq_true rfl) rfl rfl ?_
  refine sp_X5_isOne hv R _ ?_
  rw [one_ok R.1 hj]
  refine ok_if_eq (tgt := 56) dX5_set_48 (by decide) (fun c9 => absurd c9 (by decide)) (fun _ => ?_)
  refine ok_iload dX5_set_51 rfl ?_
  rw [hm]
  refine ok_if_ne (tgt := 63) dX5_set_53 (by decide) (fun _ => ?_) (fun c9 => absurd c9 (by decide))
  refine ok_aload_n dX5_set_63 rfl rfl ?_
  refine ok_iload_n dX5_set_64 rfl rfl ?_
  refine ok_iload_n dX5_set_65 rfl rfl ?_
  refine ok_callV (M' := mX5_its) (b' := (0, 0)) (As := [_, _]) (cx := 5) dX5_set_66 iX5_its w_871 (by decide) rfl (by first | exact is_lit hv (by decide) rfl | exact is_sq hv hq | exact is_row hv hq | exact is_pn hv hq (by assumption) | assumption) rfl (Nat.le_of_ble_eq_true rfl) ⟨Nat.le_of_ble_eq_true rfl, Nat.le_of_ble_eq_true rfl⟩ (Nat.le_of_ble_eq_true rfl) rfl rfl ?_
  refine sp_X5_its hv R hj (by omega) ?_
  refine ok_istore (lo' := [_, _, _, _, _, _]) dX5_set_69 (Nat.le_of_ble_eq_true rfl) rfl rfl ?_
  refine ok_aload_n dX5_set_71 rfl rfl ?_
  refine ok_iload_n dX5_set_72 rfl rfl ?_
  refine ok_iload_n dX5_set_73 rfl rfl ?_
  refine ok_iload_n dX5_set_74 rfl rfl ?_
  refine ok_callV (M' := mX5_sets) (b' := (0, 0)) (As := [_, _, _]) (cx := 5) dX5_set_75 iX5_sets w_859 (by decide) rfl (by first | exact is_lit hv (by decide) rfl | exact is_sq hv hq | exact is_row hv hq | exact is_pn hv hq (by assumption) | assumption) rfl (Nat.le_of_ble_eq_true rfl) ⟨Nat.le_of_ble_eq_true rfl, Nat.le_of_ble_eq_true rfl⟩ (Nat.le_of_ble_eq_true rfl) rfl rfl ?_
  refine sp_X5_sets hv (by have := R.1; omega) (by omega) _ ?_
  refine ok_iload dX5_set_78 rfl ?_
  refine ok_ireturn dX5_set_80 rfl rfl ?_
  exact K _ (QM.rf.u (by omega)) (R.u (by omega))
theorem sp_X5_turn_b {g : GG} {h : Hp} {Post : Option Value → Hp → Prop} (hv : Inv h) {n : Nat} {r : Nat → Int32} (R : RM 50 h n r) (p k : Int32) (hb : p < 0 ∨ nI n ≤ p) (K : Post (some (.int (-1000000001))) (hfm h 0)) : Sp g mX5_turn [.ref 49, .int p, .int k] h Post := by
  show Go g mX5_turn 0 [_, _, _, _] [] _ _ _
  refine ok_aload_n dX5_turn_0 rfl rfl ?_
  refine ok_iload_n dX5_turn_1 rfl rfl ?_
  refine ok_callV (M' := mX5_isOne) (b' := (0, 0)) (As := [_]) (cx := 5) dX5_turn_2 iX5_isOne w_867 (by decide) rfl (by first | exact is_lit hv (by decide) rfl | exact is_sq hv hq | exact is_row hv hq | exact is_pn hv hq (by assumption) | assumption) rfl (Nat.le_of_ble_eq_true rfl) ⟨Nat.le_of_ble_eq_true rfl, Nat.le_of_ble_eq_true rfl⟩ (Nat.le_of_ble_eq_true rfl) rfl rfl ?_
  refine sp_X5_isOne hv R _ ?_
  rw [one_bad R.1 hb]
  refine ok_if_eq (tgt := 15) dX5_turn_5 (by decide) (fun _ => ?_) (fun c9 => absurd rfl c9)
  refine ok_aload_n dX5_turn_15 rfl rfl ?_
  refine ok_ldc dX5_turn_16 w_849 ?_
  refine ok_callV (M' := mX5_finds) (b' := (0, 0)) (As := [_]) (cx := 5) dX5_turn_18 iX5_finds w_850 (by decide) rfl (by first | exact is_lit hv (by decide) rfl | exact is_sq hv hq | exact is_row hv hq | exact is_pn hv hq (by assumption) | assumption) rfl (Nat.le_of_ble_eq_true rfl) ⟨Nat.le_of_ble_eq_true rfl, Nat.le_of_ble_eq_true rfl⟩ (Nat.le_of_ble_eq_true rfl) rfl rfl ?_
  refine sp_X5_finds hv (k := 0) (by decide) (by decide) ?_
  refine ok_ireturn dX5_turn_21 rfl rfl ?_
  first | exact K | (simp only [↓reduceIte] at K; exact K)
theorem sp_X5_turn_w {g : GG} {h : Hp} {Post : Option Value → Hp → Prop} (hv : Inv h) {n : Nat} {r : Nat → Int32} (R : RM 50 h n r) {j : Nat} (hj : j < n) {k : Int32} (hk : k < 0 ∨ 6 ≤ k) (K : Post (some (.int (-1000000001))) (hfm h 0)) : Sp g mX5_turn [.ref 49, .int (nI j), .int k] h Post := by
  show Go g mX5_turn 0 [_, _, _, _] [] _ _ _
  refine ok_aload_n dX5_turn_0 rfl rfl ?_
  refine ok_iload_n dX5_turn_1 rfl rfl ?_
  refine ok_callV (M' := mX5_isOne) (b' := (0, 0)) (As := [_]) (cx := 5) dX5_turn_2 iX5_isOne w_867 (by decide) rfl (by first | exact is_lit hv (by decide) rfl | exact is_sq hv hq | exact is_row hv hq | exact is_pn hv hq (by assumption) | assumption) rfl (Nat.le_of_ble_eq_true rfl) ⟨Nat.le_of_ble_eq_true rfl, Nat.le_of_ble_eq_true rfl⟩ (Nat.le_of_ble_eq_true rfl) rfl rfl ?_
  refine sp_X5_isOne hv R _ ?_
  rw [one_ok R.1 hj]
  refine ok_if_eq (tgt := 15) dX5_turn_5 (by decide) (fun c9 => absurd c9 (by decide)) (fun _ => ?_)
  refine ok_iload_n dX5_turn_8 rfl rfl ?_
  refine ok_callS (M' := mX5_isKind) (b' := (0, 0)) (As := [_]) dX5_turn_9 iX5_isKind w_843 rfl (Nat.le_of_ble_eq_true rfl) ⟨Nat.le_of_ble_eq_true rfl, Nat.le_of_ble_eq_true rfl⟩ (Nat.le_of_ble_eq_true rfl) rfl rfl ?_
  refine sp_X5_isKind _ ?_
  rw [kd_bad5 hk]
  refine ok_if_ne (tgt := 22) dX5_turn_12 (by decide) (fun c9 => absurd c9 (fun c => c rfl)) (fun _ => ?_)
  refine ok_aload_n dX5_turn_15 rfl rfl ?_
  refine ok_ldc dX5_turn_16 w_849 ?_
  refine ok_callV (M' := mX5_finds) (b' := (0, 0)) (As := [_]) (cx := 5) dX5_turn_18 iX5_finds w_850 (by decide) rfl (by first | exact is_lit hv (by decide) rfl | exact is_sq hv hq | exact is_row hv hq | exact is_pn hv hq (by assumption) | assumption) rfl (Nat.le_of_ble_eq_true rfl) ⟨Nat.le_of_ble_eq_true rfl, Nat.le_of_ble_eq_true rfl⟩ (Nat.le_of_ble_eq_true rfl) rfl rfl ?_
  refine sp_X5_finds hv (k := 0) (by decide) (by decide) ?_
  refine ok_ireturn dX5_turn_21 rfl rfl ?_
  first | exact K | (simp only [↓reduceIte] at K; exact K)
theorem sp_X5_turn {g : GG} {h : Hp} {Post : Option Value → Hp → Prop} (hv : Inv h) {n : Nat} {r : Nat → Int32} (R : RM 50 h n r) {j : Nat} (hj : j < n) {k : Int32} (hk : Kd k) (K : ∀ h', QM h h' → RM 50 h' (n) (w_set r (7 + 7 * j + 0) k) → Post (some (.int (ro r j 0))) h') : Sp g mX5_turn [.ref 49, .int (nI j), .int k] h Post := by
  show Go g mX5_turn 0 [_, _, _, _] [] _ _ _
  refine ok_aload_n dX5_turn_0 rfl rfl ?_
  refine ok_iload_n dX5_turn_1 rfl rfl ?_
  refine ok_callV (M' := mX5_isOne) (b' := (0, 0)) (As := [_]) (cx := 5) dX5_turn_2 iX5_isOne w_867 (by decide) rfl (by first | exact is_lit hv (by decide) rfl | exact is_sq hv hq | exact is_row hv hq | exact is_pn hv hq (by assumption) | assumption) rfl (Nat.le_of_ble_eq_true rfl) ⟨Nat.le_of_ble_eq_true rfl, Nat.le_of_ble_eq_true rfl⟩ (Nat.le_of_ble_eq_true rfl) rfl rfl ?_
  refine sp_X5_isOne hv R _ ?_
  rw [one_ok R.1 hj]
  refine ok_if_eq (tgt := 15) dX5_turn_5 (by decide) (fun c9 => absurd c9 (by decide)) (fun _ => ?_)
  refine ok_iload_n dX5_turn_8 rfl rfl ?_
  refine ok_callS (M' := mX5_isKind) (b' := (0, 0)) (As := [_]) dX5_turn_9 iX5_isKind w_843 rfl (Nat.le_of_ble_eq_true rfl) ⟨Nat.le_of_ble_eq_true rfl, Nat.le_of_ble_eq_true rfl⟩ (Nat.le_of_ble_eq_true rfl) rfl rfl ?_
  refine sp_X5_isKind _ ?_
  rw [kd_ok5 hk]
  refine ok_if_ne (tgt := 22) dX5_turn_12 (by decide) (fun _ => ?_) (fun c9 => absurd c9 (by decide))
  refine ok_aload_n dX5_turn_22 rfl rfl ?_
  refine ok_iload_n dX5_turn_23 rfl rfl ?_
  refine ok_iconst (v := 0) dX5_turn_24 (by decide) ?_
  refine ok_callV (M' := mX5_its) (b' := (0, 0)) (As := [_, _]) (cx := 5) dX5_turn_25 iX5_its w_871 (by decide) rfl (by first | exact is_lit hv (by decide) rfl | exact is_sq hv hq | exact is_row hv hq | exact is_pn hv hq (by assumption) | assumption) rfl (Nat.le_of_ble_eq_true rfl) ⟨Nat.le_of_ble_eq_true rfl, Nat.le_of_ble_eq_true rfl⟩ (Nat.le_of_ble_eq_true rfl) rfl rfl ?_
  refine sp_X5_its (f := 0) hv R hj (by decide) ?_
  refine ok_istore_n (lo' := [_, _, _, _]) dX5_turn_28 rfl (Nat.le_of_ble_eq_true rfl) rfl rfl ?_
  refine ok_aload_n dX5_turn_29 rfl rfl ?_
  refine ok_iload_n dX5_turn_30 rfl rfl ?_
  refine ok_iconst (v := 0) dX5_turn_31 (by decide) ?_
  refine ok_iload_n dX5_turn_32 rfl rfl ?_
  refine ok_callV (M' := mX5_sets) (b' := (0, 0)) (As := [_, _, _]) (cx := 5) dX5_turn_33 iX5_sets w_859 (by decide) rfl (by first | exact is_lit hv (by decide) rfl | exact is_sq hv hq | exact is_row hv hq | exact is_pn hv hq (by assumption) | assumption) rfl (Nat.le_of_ble_eq_true rfl) ⟨Nat.le_of_ble_eq_true rfl, Nat.le_of_ble_eq_true rfl⟩ (Nat.le_of_ble_eq_true rfl) rfl rfl ?_
  refine sp_X5_sets (f := 0) hv (by have := R.1; omega) (by decide) _ ?_
  refine ok_iload_n dX5_turn_36 rfl rfl ?_
  refine ok_ireturn dX5_turn_37 rfl rfl ?_
  exact K _ (QM.rf.u (by omega)) (R.u (by omega))
def w_un (k a : Int32) : Int32 := if a = 0 then 1 else if a = k then 1 else if a = 1 then (if k = 4 then 1 else if a = 3 then (if k = 5 then 1 else 0) else 0) else if a = 3 then (if k = 5 then 1 else 0) else 0
theorem un_it {k a : Int32} (hk : Kd k) (ha : Kd a) : w_un k a = w_it 6 k a := by
  rcases hk with rfl | rfl | rfl | rfl | rfl | rfl <;> rcases ha with rfl | rfl | rfl | rfl | rfl | rfl <;> decide
theorem sp_X5_isUnder {g : GG} {h : Hp} {Post : Option Value → Hp → Prop} (k a : Int32) (K : Post (some (.int (w_un k a))) h) : Sp g mX5_isUnder [.int k, .int a] h Post := by
  show Go g mX5_isUnder 0 [_, _] [] _ _ _
  unfold w_un at K
  refine ok_iload_n dX5_isUnder_0 rfl rfl ?_
  refine ok_if_eq (tgt := 29) dX5_isUnder_1 (by decide) (fun c_1 => ?_) (fun c_1 => ?_)
  · refine ok_iconst (v := 1) dX5_isUnder_29 (by decide) ?_
    refine ok_goto (tgt := 34) dX5_isUnder_30 (by decide) ?_
    refine ok_ireturn dX5_isUnder_34 rfl rfl ?_
    first
      | (rw [if_pos c_1] at K; exact K)
      | (rw [if_neg c_1, if_pos c_6] at K; exact K)
      | (rw [if_neg c_1, if_neg c_6, if_pos c_11, if_pos c_16] at K; exact K)
      | (rw [if_neg c_1, if_neg c_6, if_pos c_11, if_neg c_16, if_pos c_21, if_pos c_26] at K; exact K)
      | (rw [if_neg c_1, if_neg c_6, if_pos c_11, if_neg c_16, if_pos c_21, if_neg c_26] at K; exact K)
      | (rw [if_neg c_1, if_neg c_6, if_pos c_11, if_neg c_16, if_neg c_21] at K; exact K)
      | (rw [if_neg c_1, if_neg c_6, if_neg c_11, if_pos c_21, if_pos c_26] at K; exact K)
      | (rw [if_neg c_1, if_neg c_6, if_neg c_11, if_pos c_21, if_neg c_26] at K; exact K)
      | (rw [if_neg c_1, if_neg c_6, if_neg c_11, if_neg c_21] at K; exact K)
  · refine ok_iload_n dX5_isUnder_4 rfl rfl ?_
    refine ok_iload_n dX5_isUnder_5 rfl rfl ?_
    refine ok_icmp_eq (tgt := 29) dX5_isUnder_6 (by decide) (fun c_6 => ?_) (fun c_6 => ?_)
    · refine ok_iconst (v := 1) dX5_isUnder_29 (by decide) ?_
      refine ok_goto (tgt := 34) dX5_isUnder_30 (by decide) ?_
      refine ok_ireturn dX5_isUnder_34 rfl rfl ?_
      first
        | (rw [if_pos c_1] at K; exact K)
        | (rw [if_neg c_1, if_pos c_6] at K; exact K)
        | (rw [if_neg c_1, if_neg c_6, if_pos c_11, if_pos c_16] at K; exact K)
        | (rw [if_neg c_1, if_neg c_6, if_pos c_11, if_neg c_16, if_pos c_21, if_pos c_26] at K; exact K)
        | (rw [if_neg c_1, if_neg c_6, if_pos c_11, if_neg c_16, if_pos c_21, if_neg c_26] at K; exact K)
        | (rw [if_neg c_1, if_neg c_6, if_pos c_11, if_neg c_16, if_neg c_21] at K; exact K)
        | (rw [if_neg c_1, if_neg c_6, if_neg c_11, if_pos c_21, if_pos c_26] at K; exact K)
        | (rw [if_neg c_1, if_neg c_6, if_neg c_11, if_pos c_21, if_neg c_26] at K; exact K)
        | (rw [if_neg c_1, if_neg c_6, if_neg c_11, if_neg c_21] at K; exact K)
    · refine ok_iload_n dX5_isUnder_9 rfl rfl ?_
      refine ok_iconst (v := 1) dX5_isUnder_10 (by decide) ?_
      refine ok_icmp_ne (tgt := 19) dX5_isUnder_11 (by decide) (fun c_11 => ?_) (fun c_11 => ?_)
      · refine ok_iload_n dX5_isUnder_19 rfl rfl ?_
        refine ok_iconst (v := 3) dX5_isUnder_20 (by decide) ?_
        refine ok_icmp_ne (tgt := 33) dX5_isUnder_21 (by decide) (fun c_21 => ?_) (fun c_21 => ?_)
        · refine ok_iconst (v := 0) dX5_isUnder_33 (by decide) ?_
          refine ok_ireturn dX5_isUnder_34 rfl rfl ?_
          first
            | (rw [if_pos c_1] at K; exact K)
            | (rw [if_neg c_1, if_pos c_6] at K; exact K)
            | (rw [if_neg c_1, if_neg c_6, if_pos c_11, if_pos c_16] at K; exact K)
            | (rw [if_neg c_1, if_neg c_6, if_pos c_11, if_neg c_16, if_pos c_21, if_pos c_26] at K; exact K)
            | (rw [if_neg c_1, if_neg c_6, if_pos c_11, if_neg c_16, if_pos c_21, if_neg c_26] at K; exact K)
            | (rw [if_neg c_1, if_neg c_6, if_pos c_11, if_neg c_16, if_neg c_21] at K; exact K)
            | (rw [if_neg c_1, if_neg c_6, if_neg c_11, if_pos c_21, if_pos c_26] at K; exact K)
            | (rw [if_neg c_1, if_neg c_6, if_neg c_11, if_pos c_21, if_neg c_26] at K; exact K)
            | (rw [if_neg c_1, if_neg c_6, if_neg c_11, if_neg c_21] at K; exact K)
        · refine ok_iload_n dX5_isUnder_24 rfl rfl ?_
          refine ok_iconst (v := 5) dX5_isUnder_25 (by decide) ?_
          refine ok_icmp_ne (tgt := 33) dX5_isUnder_26 (by decide) (fun c_26 => ?_) (fun c_26 => ?_)
          · refine ok_iconst (v := 0) dX5_isUnder_33 (by decide) ?_
            refine ok_ireturn dX5_isUnder_34 rfl rfl ?_
            first
              | (rw [if_pos c_1] at K; exact K)
              | (rw [if_neg c_1, if_pos c_6] at K; exact K)
              | (rw [if_neg c_1, if_neg c_6, if_pos c_11, if_pos c_16] at K; exact K)
              | (rw [if_neg c_1, if_neg c_6, if_pos c_11, if_neg c_16, if_pos c_21, if_pos c_26] at K; exact K)
              | (rw [if_neg c_1, if_neg c_6, if_pos c_11, if_neg c_16, if_pos c_21, if_neg c_26] at K; exact K)
              | (rw [if_neg c_1, if_neg c_6, if_pos c_11, if_neg c_16, if_neg c_21] at K; exact K)
              | (rw [if_neg c_1, if_neg c_6, if_neg c_11, if_pos c_21, if_pos c_26] at K; exact K)
              | (rw [if_neg c_1, if_neg c_6, if_neg c_11, if_pos c_21, if_neg c_26] at K; exact K)
              | (rw [if_neg c_1, if_neg c_6, if_neg c_11, if_neg c_21] at K; exact K)
          · refine ok_iconst (v := 1) dX5_isUnder_29 (by decide) ?_
            refine ok_goto (tgt := 34) dX5_isUnder_30 (by decide) ?_
            refine ok_ireturn dX5_isUnder_34 rfl rfl ?_
            first
              | (rw [if_pos c_1] at K; exact K)
              | (rw [if_neg c_1, if_pos c_6] at K; exact K)
              | (rw [if_neg c_1, if_neg c_6, if_pos c_11, if_pos c_16] at K; exact K)
              | (rw [if_neg c_1, if_neg c_6, if_pos c_11, if_neg c_16, if_pos c_21, if_pos c_26] at K; exact K)
              | (rw [if_neg c_1, if_neg c_6, if_pos c_11, if_neg c_16, if_pos c_21, if_neg c_26] at K; exact K)
              | (rw [if_neg c_1, if_neg c_6, if_pos c_11, if_neg c_16, if_neg c_21] at K; exact K)
              | (rw [if_neg c_1, if_neg c_6, if_neg c_11, if_pos c_21, if_pos c_26] at K; exact K)
              | (rw [if_neg c_1, if_neg c_6, if_neg c_11, if_pos c_21, if_neg c_26] at K; exact K)
              | (rw [if_neg c_1, if_neg c_6, if_neg c_11, if_neg c_21] at K; exact K)
      · refine ok_iload_n dX5_isUnder_14 rfl rfl ?_
        refine ok_iconst (v := 4) dX5_isUnder_15 (by decide) ?_
        refine ok_icmp_eq (tgt := 29) dX5_isUnder_16 (by decide) (fun c_16 => ?_) (fun c_16 => ?_)
        · refine ok_iconst (v := 1) dX5_isUnder_29 (by decide) ?_
          refine ok_goto (tgt := 34) dX5_isUnder_30 (by decide) ?_
          refine ok_ireturn dX5_isUnder_34 rfl rfl ?_
          first
            | (rw [if_pos c_1] at K; exact K)
            | (rw [if_neg c_1, if_pos c_6] at K; exact K)
            | (rw [if_neg c_1, if_neg c_6, if_pos c_11, if_pos c_16] at K; exact K)
            | (rw [if_neg c_1, if_neg c_6, if_pos c_11, if_neg c_16, if_pos c_21, if_pos c_26] at K; exact K)
            | (rw [if_neg c_1, if_neg c_6, if_pos c_11, if_neg c_16, if_pos c_21, if_neg c_26] at K; exact K)
            | (rw [if_neg c_1, if_neg c_6, if_pos c_11, if_neg c_16, if_neg c_21] at K; exact K)
            | (rw [if_neg c_1, if_neg c_6, if_neg c_11, if_pos c_21, if_pos c_26] at K; exact K)
            | (rw [if_neg c_1, if_neg c_6, if_neg c_11, if_pos c_21, if_neg c_26] at K; exact K)
            | (rw [if_neg c_1, if_neg c_6, if_neg c_11, if_neg c_21] at K; exact K)
        · refine ok_iload_n dX5_isUnder_19 rfl rfl ?_
          refine ok_iconst (v := 3) dX5_isUnder_20 (by decide) ?_
          refine ok_icmp_ne (tgt := 33) dX5_isUnder_21 (by decide) (fun c_21 => ?_) (fun c_21 => ?_)
          · refine ok_iconst (v := 0) dX5_isUnder_33 (by decide) ?_
            refine ok_ireturn dX5_isUnder_34 rfl rfl ?_
            first
              | (rw [if_pos c_1] at K; exact K)
              | (rw [if_neg c_1, if_pos c_6] at K; exact K)
              | (rw [if_neg c_1, if_neg c_6, if_pos c_11, if_pos c_16] at K; exact K)
              | (rw [if_neg c_1, if_neg c_6, if_pos c_11, if_neg c_16, if_pos c_21, if_pos c_26] at K; exact K)
              | (rw [if_neg c_1, if_neg c_6, if_pos c_11, if_neg c_16, if_pos c_21, if_neg c_26] at K; exact K)
              | (rw [if_neg c_1, if_neg c_6, if_pos c_11, if_neg c_16, if_neg c_21] at K; exact K)
              | (rw [if_neg c_1, if_neg c_6, if_neg c_11, if_pos c_21, if_pos c_26] at K; exact K)
              | (rw [if_neg c_1, if_neg c_6, if_neg c_11, if_pos c_21, if_neg c_26] at K; exact K)
              | (rw [if_neg c_1, if_neg c_6, if_neg c_11, if_neg c_21] at K; exact K)
          · refine ok_iload_n dX5_isUnder_24 rfl rfl ?_
            refine ok_iconst (v := 5) dX5_isUnder_25 (by decide) ?_
            refine ok_icmp_ne (tgt := 33) dX5_isUnder_26 (by decide) (fun c_26 => ?_) (fun c_26 => ?_)
            · refine ok_iconst (v := 0) dX5_isUnder_33 (by decide) ?_
              refine ok_ireturn dX5_isUnder_34 rfl rfl ?_
              first
                | (rw [if_pos c_1] at K; exact K)
                | (rw [if_neg c_1, if_pos c_6] at K; exact K)
                | (rw [if_neg c_1, if_neg c_6, if_pos c_11, if_pos c_16] at K; exact K)
                | (rw [if_neg c_1, if_neg c_6, if_pos c_11, if_neg c_16, if_pos c_21, if_pos c_26] at K; exact K)
                | (rw [if_neg c_1, if_neg c_6, if_pos c_11, if_neg c_16, if_pos c_21, if_neg c_26] at K; exact K)
                | (rw [if_neg c_1, if_neg c_6, if_pos c_11, if_neg c_16, if_neg c_21] at K; exact K)
                | (rw [if_neg c_1, if_neg c_6, if_neg c_11, if_pos c_21, if_pos c_26] at K; exact K)
                | (rw [if_neg c_1, if_neg c_6, if_neg c_11, if_pos c_21, if_neg c_26] at K; exact K)
                | (rw [if_neg c_1, if_neg c_6, if_neg c_11, if_neg c_21] at K; exact K)
            · refine ok_iconst (v := 1) dX5_isUnder_29 (by decide) ?_
              refine ok_goto (tgt := 34) dX5_isUnder_30 (by decide) ?_
              refine ok_ireturn dX5_isUnder_34 rfl rfl ?_
              first
                | (rw [if_pos c_1] at K; exact K)
                | (rw [if_neg c_1, if_pos c_6] at K; exact K)
                | (rw [if_neg c_1, if_neg c_6, if_pos c_11, if_pos c_16] at K; exact K)
                | (rw [if_neg c_1, if_neg c_6, if_pos c_11, if_neg c_16, if_pos c_21, if_pos c_26] at K; exact K)
                | (rw [if_neg c_1, if_neg c_6, if_pos c_11, if_neg c_16, if_pos c_21, if_neg c_26] at K; exact K)
                | (rw [if_neg c_1, if_neg c_6, if_pos c_11, if_neg c_16, if_neg c_21] at K; exact K)
                | (rw [if_neg c_1, if_neg c_6, if_neg c_11, if_pos c_21, if_pos c_26] at K; exact K)
                | (rw [if_neg c_1, if_neg c_6, if_neg c_11, if_pos c_21, if_neg c_26] at K; exact K)
                | (rw [if_neg c_1, if_neg c_6, if_neg c_11, if_neg c_21] at K; exact K)
theorem sp_X5_as_b {g : GG} {h : Hp} {Post : Option Value → Hp → Prop} (hv : Inv h) {n : Nat} {r : Nat → Int32} (R : RM 50 h n r) (p k : Int32) (hb : p < 0 ∨ nI n ≤ p) (K : Post (some (.int (-1000000001))) (hfm h 0)) : Sp g mX5_as [.ref 49, .int p, .int k] h Post := by
  show Go g mX5_as 0 [_, _, _] [] _ _ _
  refine ok_aload_n dX5_as_0 rfl rfl ?_
  refine ok_iload_n dX5_as_1 rfl rfl ?_
  refine ok_callV (M' := mX5_isOne) (b' := (0, 0)) (As := [_]) (cx := 5) dX5_as_2 iX5_isOne w_867 (by decide) rfl (by first | exact is_lit hv (by decide) rfl | exact is_sq hv hq | exact is_row hv hq | exact is_pn hv hq (by assumption) | assumption) rfl (Nat.le_of_ble_eq_true rfl) ⟨Nat.le_of_ble_eq_true rfl, Nat.le_of_ble_eq_true rfl⟩ (Nat.le_of_ble_eq_true rfl) rfl rfl ?_
  refine sp_X5_isOne hv R _ ?_
  rw [one_bad R.1 hb]
  refine ok_if_eq (tgt := 15) dX5_as_5 (by decide) (fun _ => ?_) (fun c9 => absurd rfl c9)
  refine ok_aload_n dX5_as_15 rfl rfl ?_
  refine ok_ldc dX5_as_16 w_849 ?_
  refine ok_callV (M' := mX5_finds) (b' := (0, 0)) (As := [_]) (cx := 5) dX5_as_18 iX5_finds w_850 (by decide) rfl (by first | exact is_lit hv (by decide) rfl | exact is_sq hv hq | exact is_row hv hq | exact is_pn hv hq (by assumption) | assumption) rfl (Nat.le_of_ble_eq_true rfl) ⟨Nat.le_of_ble_eq_true rfl, Nat.le_of_ble_eq_true rfl⟩ (Nat.le_of_ble_eq_true rfl) rfl rfl ?_
  refine sp_X5_finds hv (k := 0) (by decide) (by decide) ?_
  refine ok_ireturn dX5_as_21 rfl rfl ?_
  first | exact K | (simp only [↓reduceIte] at K; exact K)
theorem sp_X5_as_w {g : GG} {h : Hp} {Post : Option Value → Hp → Prop} (hv : Inv h) {n : Nat} {r : Nat → Int32} (R : RM 50 h n r) {j : Nat} (hj : j < n) {k : Int32} (hk : k < 0 ∨ 6 ≤ k) (K : Post (some (.int (-1000000001))) (hfm h 0)) : Sp g mX5_as [.ref 49, .int (nI j), .int k] h Post := by
  show Go g mX5_as 0 [_, _, _] [] _ _ _
  refine ok_aload_n dX5_as_0 rfl rfl ?_
  refine ok_iload_n dX5_as_1 rfl rfl ?_
  refine ok_callV (M' := mX5_isOne) (b' := (0, 0)) (As := [_]) (cx := 5) dX5_as_2 iX5_isOne w_867 (by decide) rfl (by first | exact is_lit hv (by decide) rfl | exact is_sq hv hq | exact is_row hv hq | exact is_pn hv hq (by assumption) | assumption) rfl (Nat.le_of_ble_eq_true rfl) ⟨Nat.le_of_ble_eq_true rfl, Nat.le_of_ble_eq_true rfl⟩ (Nat.le_of_ble_eq_true rfl) rfl rfl ?_
  refine sp_X5_isOne hv R _ ?_
  rw [one_ok R.1 hj]
  refine ok_if_eq (tgt := 15) dX5_as_5 (by decide) (fun c9 => absurd c9 (by decide)) (fun _ => ?_)
  refine ok_iload_n dX5_as_8 rfl rfl ?_
  refine ok_callS (M' := mX5_isKind) (b' := (0, 0)) (As := [_]) dX5_as_9 iX5_isKind w_843 rfl (Nat.le_of_ble_eq_true rfl) ⟨Nat.le_of_ble_eq_true rfl, Nat.le_of_ble_eq_true rfl⟩ (Nat.le_of_ble_eq_true rfl) rfl rfl ?_
  refine sp_X5_isKind _ ?_
  rw [kd_bad5 hk]
  refine ok_if_ne (tgt := 22) dX5_as_12 (by decide) (fun c9 => absurd c9 (fun c => c rfl)) (fun _ => ?_)
  refine ok_aload_n dX5_as_15 rfl rfl ?_
  refine ok_ldc dX5_as_16 w_849 ?_
  refine ok_callV (M' := mX5_finds) (b' := (0, 0)) (As := [_]) (cx := 5) dX5_as_18 iX5_finds w_850 (by decide) rfl (by first | exact is_lit hv (by decide) rfl | exact is_sq hv hq | exact is_row hv hq | exact is_pn hv hq (by assumption) | assumption) rfl (Nat.le_of_ble_eq_true rfl) ⟨Nat.le_of_ble_eq_true rfl, Nat.le_of_ble_eq_true rfl⟩ (Nat.le_of_ble_eq_true rfl) rfl rfl ?_
  refine sp_X5_finds hv (k := 0) (by decide) (by decide) ?_
  refine ok_ireturn dX5_as_21 rfl rfl ?_
  first | exact K | (simp only [↓reduceIte] at K; exact K)
theorem sp_X5_as_k {g : GG} {h : Hp} {Post : Option Value → Hp → Prop} (hv : Inv h) {n : Nat} {r : Nat → Int32} (R : RM 50 h n r) (G : RG r n) {j : Nat} (hj : j < n) {k : Int32} (hk : Kd k) (hi : w_it 6 (ro r j 0) k = 0) (K : Post (some (.int (-1000000003))) (hfm h 2)) : Sp g mX5_as [.ref 49, .int (nI j), .int k] h Post := by
  show Go g mX5_as 0 [_, _, _] [] _ _ _
  refine ok_aload_n dX5_as_0 rfl rfl ?_
  refine ok_iload_n dX5_as_1 rfl rfl ?_
  refine ok_callV (M' := mX5_isOne) (b' := (0, 0)) (As := [_]) (cx := 5) dX5_as_2 iX5_isOne w_867 (by decide) rfl (by first | exact is_lit hv (by decide) rfl | exact is_sq hv hq | exact is_row hv hq | exact is_pn hv hq (by assumption) | assumption) rfl (Nat.le_of_ble_eq_true rfl) ⟨Nat.le_of_ble_eq_true rfl, Nat.le_of_ble_eq_true rfl⟩ (Nat.le_of_ble_eq_true rfl) rfl rfl ?_
  refine sp_X5_isOne hv R _ ?_
  rw [one_ok R.1 hj]
  refine ok_if_eq (tgt := 15) dX5_as_5 (by decide) (fun c9 => absurd c9 (by decide)) (fun _ => ?_)
  refine ok_iload_n dX5_as_8 rfl rfl ?_
  refine ok_callS (M' := mX5_isKind) (b' := (0, 0)) (As := [_]) dX5_as_9 iX5_isKind w_843 rfl (Nat.le_of_ble_eq_true rfl) ⟨Nat.le_of_ble_eq_true rfl, Nat.le_of_ble_eq_true rfl⟩ (Nat.le_of_ble_eq_true rfl) rfl rfl ?_
  refine sp_X5_isKind _ ?_
  rw [kd_ok5 hk]
  refine ok_if_ne (tgt := 22) dX5_as_12 (by decide) (fun _ => ?_) (fun c9 => absurd c9 (by decide))
  refine ok_aload_n dX5_as_22 rfl rfl ?_
  refine ok_iload_n dX5_as_23 rfl rfl ?_
  refine ok_iconst (v := 0) dX5_as_24 (by decide) ?_
  refine ok_callV (M' := mX5_its) (b' := (0, 0)) (As := [_, _]) (cx := 5) dX5_as_25 iX5_its w_871 (by decide) rfl (by first | exact is_lit hv (by decide) rfl | exact is_sq hv hq | exact is_row hv hq | exact is_pn hv hq (by assumption) | assumption) rfl (Nat.le_of_ble_eq_true rfl) ⟨Nat.le_of_ble_eq_true rfl, Nat.le_of_ble_eq_true rfl⟩ (Nat.le_of_ble_eq_true rfl) rfl rfl ?_
  refine sp_X5_its (f := 0) hv R hj (by decide) ?_
  refine ok_iload_n dX5_as_28 rfl rfl ?_
  refine ok_callS (M' := mX5_isUnder) (b' := (0, 0)) (As := [_, _]) dX5_as_29 iX5_isUnder w_902 rfl (Nat.le_of_ble_eq_true rfl) ⟨Nat.le_of_ble_eq_true rfl, Nat.le_of_ble_eq_true rfl⟩ (Nat.le_of_ble_eq_true rfl) rfl rfl ?_
  refine sp_X5_isUnder _ _ ?_
  rw [un_it (G.kd j hj) hk, hi]
  refine ok_if_eq (tgt := 44) dX5_as_32 (by decide) (fun _ => ?_) (fun c9 => absurd rfl c9)
  refine ok_aload_n dX5_as_44 rfl rfl ?_
  refine ok_ldc dX5_as_45 w_905 ?_
  refine ok_callV (M' := mX5_finds) (b' := (0, 0)) (As := [_]) (cx := 5) dX5_as_47 iX5_finds w_850 (by decide) rfl (by first | exact is_lit hv (by decide) rfl | exact is_sq hv hq | exact is_row hv hq | exact is_pn hv hq (by assumption) | assumption) rfl (Nat.le_of_ble_eq_true rfl) ⟨Nat.le_of_ble_eq_true rfl, Nat.le_of_ble_eq_true rfl⟩ (Nat.le_of_ble_eq_true rfl) rfl rfl ?_
  refine sp_X5_finds hv (k := 2) (by decide) (by decide) ?_
  refine ok_ireturn dX5_as_50 rfl rfl ?_
  first | exact K | (simp only [↓reduceIte] at K; exact K)
theorem sp_X5_as {g : GG} {h : Hp} {Post : Option Value → Hp → Prop} (hv : Inv h) {n : Nat} {r : Nat → Int32} (R : RM 50 h n r) (G : RG r n) {j : Nat} (hj : j < n) {k : Int32} (hk : Kd k) (hi : w_it 6 (ro r j 0) k = 1) (K : Post (some (.int (ro r j 2))) h) : Sp g mX5_as [.ref 49, .int (nI j), .int k] h Post := by
  show Go g mX5_as 0 [_, _, _] [] _ _ _
  refine ok_aload_n dX5_as_0 rfl rfl ?_
  refine ok_iload_n dX5_as_1 rfl rfl ?_
  refine ok_callV (M' := mX5_isOne) (b' := (0, 0)) (As := [_]) (cx := 5) dX5_as_2 iX5_isOne w_867 (by decide) rfl (by first | exact is_lit hv (by decide) rfl | exact is_sq hv hq | exact is_row hv hq | exact is_pn hv hq (by assumption) | assumption) rfl (Nat.le_of_ble_eq_true rfl) ⟨Nat.le_of_ble_eq_true rfl, Nat.le_of_ble_eq_true rfl⟩ (Nat.le_of_ble_eq_true rfl) rfl rfl ?_
  refine sp_X5_isOne hv R _ ?_
  rw [one_ok R.1 hj]
  refine ok_if_eq (tgt := 15) dX5_as_5 (by decide) (fun c9 => absurd c9 (by decide)) (fun _ => ?_)
  refine ok_iload_n dX5_as_8 rfl rfl ?_
  refine ok_callS (M' := mX5_isKind) (b' := (0, 0)) (As := [_]) dX5_as_9 iX5_isKind w_843 rfl (Nat.le_of_ble_eq_true rfl) ⟨Nat.le_of_ble_eq_true rfl, Nat.le_of_ble_eq_true rfl⟩ (Nat.le_of_ble_eq_true rfl) rfl rfl ?_
  refine sp_X5_isKind _ ?_
  rw [kd_ok5 hk]
  refine ok_if_ne (tgt := 22) dX5_as_12 (by decide) (fun _ => ?_) (fun c9 => absurd c9 (by decide))
  refine ok_aload_n dX5_as_22 rfl rfl ?_
  refine ok_iload_n dX5_as_23 rfl rfl ?_
  refine ok_iconst (v := 0) dX5_as_24 (by decide) ?_
  refine ok_callV (M' := mX5_its) (b' := (0, 0)) (As := [_, _]) (cx := 5) dX5_as_25 iX5_its w_871 (by decide) rfl (by first | exact is_lit hv (by decide) rfl | exact is_sq hv hq | exact is_row hv hq | exact is_pn hv hq (by assumption) | assumption) rfl (Nat.le_of_ble_eq_true rfl) ⟨Nat.le_of_ble_eq_true rfl, Nat.le_of_ble_eq_true rfl⟩ (Nat.le_of_ble_eq_true rfl) rfl rfl ?_
  refine sp_X5_its (f := 0) hv R hj (by decide) ?_
  refine ok_iload_n dX5_as_28 rfl rfl ?_
  refine ok_callS (M' := mX5_isUnder) (b' := (0, 0)) (As := [_, _]) dX5_as_29 iX5_isUnder w_902 rfl (Nat.le_of_ble_eq_true rfl) ⟨Nat.le_of_ble_eq_true rfl, Nat.le_of_ble_eq_true rfl⟩ (Nat.le_of_ble_eq_true rfl) rfl rfl ?_
  refine sp_X5_isUnder _ _ ?_
  rw [un_it (G.kd j hj) hk, hi]
  refine ok_if_eq (tgt := 44) dX5_as_32 (by decide) (fun c9 => absurd c9 (by decide)) (fun _ => ?_)
  refine ok_aload_n dX5_as_35 rfl rfl ?_
  refine ok_iload_n dX5_as_36 rfl rfl ?_
  refine ok_iconst (v := 2) dX5_as_37 (by decide) ?_
  refine ok_callV (M' := mX5_its) (b' := (0, 0)) (As := [_, _]) (cx := 5) dX5_as_38 iX5_its w_871 (by decide) rfl (by first | exact is_lit hv (by decide) rfl | exact is_sq hv hq | exact is_row hv hq | exact is_pn hv hq (by assumption) | assumption) rfl (Nat.le_of_ble_eq_true rfl) ⟨Nat.le_of_ble_eq_true rfl, Nat.le_of_ble_eq_true rfl⟩ (Nat.le_of_ble_eq_true rfl) rfl rfl ?_
  refine sp_X5_its (f := 2) hv R hj (by decide) ?_
  refine ok_goto (tgt := 50) dX5_as_41 (by decide) ?_
  refine ok_ireturn dX5_as_50 rfl rfl ?_
  first | exact K | (simp only [↓reduceIte] at K; exact K)
theorem ab_1 {j t : Nat} (hj : j < 10) (ht : t < 10) (h : nI t ≤ nI j) : (if 0 ≤ nI j - nI t then nI j - nI t else 0 - (nI j - nI t)) = nI j - nI t := by
  rw [i_le, nI_toInt (by omega), nI_toInt (by omega)] at h
  rw [if_pos (by rw [nI_mi (by omega) (by omega), i_le, nI_toInt (by omega)]; show (0 : Int) ≤ _; omega)]
theorem ab_2 : ∀ j, j < 10 → ∀ t, t < 10 → ¬ nI t ≤ nI j → (if 0 ≤ nI j - nI t then nI j - nI t else 0 - (nI j - nI t)) = nI t - nI j := by decide +kernel
theorem sp_X5_move_b {g : GG} {h : Hp} {Post : Option Value → Hp → Prop} (hv : Inv h) {n : Nat} {r : Nat → Int32} (R : RM 50 h n r) (p t : Int32) (hb : p < 0 ∨ nI n ≤ p) (K : Post (some (.int (-1000000001))) (hfm h 0)) : Sp g mX5_move [.ref 49, .int p, .int t] h Post := by
  show Go g mX5_move 0 [_, _, _] [] _ _ _
  refine ok_aload_n dX5_move_0 rfl rfl ?_
  refine ok_iload_n dX5_move_1 rfl rfl ?_
  refine ok_callV (M' := mX5_isOne) (b' := (0, 0)) (As := [_]) (cx := 5) dX5_move_2 iX5_isOne w_867 (by decide) rfl (by first | exact is_lit hv (by decide) rfl | exact is_sq hv hq | exact is_row hv hq | exact is_pn hv hq (by assumption) | assumption) rfl (Nat.le_of_ble_eq_true rfl) ⟨Nat.le_of_ble_eq_true rfl, Nat.le_of_ble_eq_true rfl⟩ (Nat.le_of_ble_eq_true rfl) rfl rfl ?_
  refine sp_X5_isOne hv R _ ?_
  rw [one_bad R.1 hb]
  refine ok_if_eq (tgt := 16) dX5_move_5 (by decide) (fun _ => ?_) (fun c9 => absurd rfl c9)
  refine ok_aload_n dX5_move_16 rfl rfl ?_
  refine ok_ldc dX5_move_17 w_849 ?_
  refine ok_callV (M' := mX5_finds) (b' := (0, 0)) (As := [_]) (cx := 5) dX5_move_19 iX5_finds w_850 (by decide) rfl (by first | exact is_lit hv (by decide) rfl | exact is_sq hv hq | exact is_row hv hq | exact is_pn hv hq (by assumption) | assumption) rfl (Nat.le_of_ble_eq_true rfl) ⟨Nat.le_of_ble_eq_true rfl, Nat.le_of_ble_eq_true rfl⟩ (Nat.le_of_ble_eq_true rfl) rfl rfl ?_
  refine sp_X5_finds hv (k := 0) (by decide) (by decide) ?_
  refine ok_ireturn dX5_move_22 rfl rfl ?_
  first | exact K | (simp only [↓reduceIte] at K; exact K)
theorem sp_X5_move_w {g : GG} {h : Hp} {Post : Option Value → Hp → Prop} (hv : Inv h) {n : Nat} {r : Nat → Int32} (R : RM 50 h n r) {j : Nat} (hj : j < n) {t : Int32} (hb : t < 0 ∨ nI n ≤ t) (K : Post (some (.int (-1000000001))) (hfm h 0)) : Sp g mX5_move [.ref 49, .int (nI j), .int t] h Post := by
  show Go g mX5_move 0 [_, _, _] [] _ _ _
  refine ok_aload_n dX5_move_0 rfl rfl ?_
  refine ok_iload_n dX5_move_1 rfl rfl ?_
  refine ok_callV (M' := mX5_isOne) (b' := (0, 0)) (As := [_]) (cx := 5) dX5_move_2 iX5_isOne w_867 (by decide) rfl (by first | exact is_lit hv (by decide) rfl | exact is_sq hv hq | exact is_row hv hq | exact is_pn hv hq (by assumption) | assumption) rfl (Nat.le_of_ble_eq_true rfl) ⟨Nat.le_of_ble_eq_true rfl, Nat.le_of_ble_eq_true rfl⟩ (Nat.le_of_ble_eq_true rfl) rfl rfl ?_
  refine sp_X5_isOne hv R _ ?_
  rw [one_ok R.1 hj]
  refine ok_if_eq (tgt := 16) dX5_move_5 (by decide) (fun c9 => absurd c9 (by decide)) (fun _ => ?_)
  refine ok_aload_n dX5_move_8 rfl rfl ?_
  refine ok_iload_n dX5_move_9 rfl rfl ?_
  refine ok_callV (M' := mX5_isOne) (b' := (0, 0)) (As := [_]) (cx := 5) dX5_move_10 iX5_isOne w_867 (by decide) rfl (by first | exact is_lit hv (by decide) rfl | exact is_sq hv hq | exact is_row hv hq | exact is_pn hv hq (by assumption) | assumption) rfl (Nat.le_of_ble_eq_true rfl) ⟨Nat.le_of_ble_eq_true rfl, Nat.le_of_ble_eq_true rfl⟩ (Nat.le_of_ble_eq_true rfl) rfl rfl ?_
  refine sp_X5_isOne hv R _ ?_
  rw [one_bad R.1 hb]
  refine ok_if_ne (tgt := 23) dX5_move_13 (by decide) (fun c9 => absurd c9 (fun c => c rfl)) (fun _ => ?_)
  refine ok_aload_n dX5_move_16 rfl rfl ?_
  refine ok_ldc dX5_move_17 w_849 ?_
  refine ok_callV (M' := mX5_finds) (b' := (0, 0)) (As := [_]) (cx := 5) dX5_move_19 iX5_finds w_850 (by decide) rfl (by first | exact is_lit hv (by decide) rfl | exact is_sq hv hq | exact is_row hv hq | exact is_pn hv hq (by assumption) | assumption) rfl (Nat.le_of_ble_eq_true rfl) ⟨Nat.le_of_ble_eq_true rfl, Nat.le_of_ble_eq_true rfl⟩ (Nat.le_of_ble_eq_true rfl) rfl rfl ?_
  refine sp_X5_finds hv (k := 0) (by decide) (by decide) ?_
  refine ok_ireturn dX5_move_22 rfl rfl ?_
  first | exact K | (simp only [↓reduceIte] at K; exact K)
theorem sp_X5_move {g : GG} {h : Hp} {Post : Option Value → Hp → Prop} (hv : Inv h) {n : Nat} {r : Nat → Int32} (R : RM 50 h n r) {j : Nat} (hj : j < n) {t : Nat} (ht : t < n) (K : ∀ h', QM h h' → RM 50 h' (n) (w_pm r (mv j t)) → Post (some (.int (if 0 ≤ nI j - nI t then nI j - nI t else 0 - (nI j - nI t)))) h') : Sp g mX5_move [.ref 49, .int (nI j), .int (nI t)] h Post := by
  show Go g mX5_move 0 [_, _, _] [] _ _ _
  have hn := R.1
  refine ok_aload_n dX5_move_0 rfl rfl ?_
  refine ok_iload_n dX5_move_1 rfl rfl ?_
  refine ok_callV (M' := mX5_isOne) (b' := (0, 0)) (As := [_]) (cx := 5) dX5_move_2 iX5_isOne w_867 (by decide) rfl (by first | exact is_lit hv (by decide) rfl | exact is_sq hv hq | exact is_row hv hq | exact is_pn hv hq (by assumption) | assumption) rfl (Nat.le_of_ble_eq_true rfl) ⟨Nat.le_of_ble_eq_true rfl, Nat.le_of_ble_eq_true rfl⟩ (Nat.le_of_ble_eq_true rfl) rfl rfl ?_
  refine sp_X5_isOne hv R _ ?_
  rw [one_ok R.1 hj]
  refine ok_if_eq (tgt := 16) dX5_move_5 (by decide) (fun c9 => absurd c9 (by decide)) (fun _ => ?_)
  refine ok_aload_n dX5_move_8 rfl rfl ?_
  refine ok_iload_n dX5_move_9 rfl rfl ?_
  refine ok_callV (M' := mX5_isOne) (b' := (0, 0)) (As := [_]) (cx := 5) dX5_move_10 iX5_isOne w_867 (by decide) rfl (by first | exact is_lit hv (by decide) rfl | exact is_sq hv hq | exact is_row hv hq | exact is_pn hv hq (by assumption) | assumption) rfl (Nat.le_of_ble_eq_true rfl) ⟨Nat.le_of_ble_eq_true rfl, Nat.le_of_ble_eq_true rfl⟩ (Nat.le_of_ble_eq_true rfl) rfl rfl ?_
  refine sp_X5_isOne hv R _ ?_
  rw [one_ok R.1 ht]
  refine ok_if_ne (tgt := 23) dX5_move_13 (by decide) (fun _ => ?_) (fun c9 => absurd c9 (by decide))
  refine ok_aload_n dX5_move_23 rfl rfl ?_
  refine ok_iload_n dX5_move_24 rfl rfl ?_
  refine ok_iload_n dX5_move_25 rfl rfl ?_
  refine ok_callV (M' := mX5_goTo) (b' := (0, 0)) (As := [_, _]) (cx := 5) dX5_move_26 iX5_goTo w_910 (by decide) rfl (by first | exact is_lit hv (by decide) rfl | exact is_sq hv hq | exact is_row hv hq | exact is_pn hv hq (by assumption) | assumption) rfl (Nat.le_of_ble_eq_true rfl) ⟨Nat.le_of_ble_eq_true rfl, Nat.le_of_ble_eq_true rfl⟩ (Nat.le_of_ble_eq_true rfl) rfl rfl ?_
  refine sp_X5_goTo hv R hj ht (fun h1 M1 R1 => ?_)
  have M1 := M1.qm
  refine ok_iload_n dX5_move_29 rfl rfl ?_
  refine ok_iload_n dX5_move_30 rfl rfl ?_
  refine ok_icmp_ge (tgt := 40) dX5_move_31 (by decide) (fun c_31 => ?_) (fun c_31 => ?_)
  · refine ok_iload_n dX5_move_40 rfl rfl ?_
    refine ok_iload_n dX5_move_41 rfl rfl ?_
    refine ok_isub dX5_move_42 ?_
    refine ok_ireturn dX5_move_43 rfl rfl ?_
    first | (rw [ab_1 (by omega) (by omega) c_31] at K; exact K h1 M1 R1) | (rw [ab_2 j (by omega) t (by omega) c_31] at K; exact K h1 M1 R1)
  · refine ok_iload_n dX5_move_34 rfl rfl ?_
    refine ok_iload_n dX5_move_35 rfl rfl ?_
    refine ok_isub dX5_move_36 ?_
    refine ok_goto (tgt := 43) dX5_move_37 (by decide) ?_
    refine ok_ireturn dX5_move_43 rfl rfl ?_
    first | (rw [ab_1 (by omega) (by omega) c_31] at K; exact K h1 M1 R1) | (rw [ab_2 j (by omega) t (by omega) c_31] at K; exact K h1 M1 R1)
theorem sp_X5_leave_b {g : GG} {h : Hp} {Post : Option Value → Hp → Prop} (hv : Inv h) {n : Nat} {r : Nat → Int32} (R : RM 50 h n r) (p : Int32) (hb : p < 0 ∨ nI n ≤ p) (K : Post (some (.int (-1000000001))) (hfm h 0)) : Sp g mX5_leave [.ref 49, .int p] h Post := by
  show Go g mX5_leave 0 [_, _] [] _ _ _
  refine ok_aload_n dX5_leave_0 rfl rfl ?_
  refine ok_iload_n dX5_leave_1 rfl rfl ?_
  refine ok_callV (M' := mX5_isOne) (b' := (0, 0)) (As := [_]) (cx := 5) dX5_leave_2 iX5_isOne w_867 (by decide) rfl (by first | exact is_lit hv (by decide) rfl | exact is_sq hv hq | exact is_row hv hq | exact is_pn hv hq (by assumption) | assumption) rfl (Nat.le_of_ble_eq_true rfl) ⟨Nat.le_of_ble_eq_true rfl, Nat.le_of_ble_eq_true rfl⟩ (Nat.le_of_ble_eq_true rfl) rfl rfl ?_
  refine sp_X5_isOne hv R _ ?_
  rw [one_bad R.1 hb]
  refine ok_if_ne (tgt := 15) dX5_leave_5 (by decide) (fun c9 => absurd c9 (fun c => c rfl)) (fun _ => ?_)
  refine ok_aload_n dX5_leave_8 rfl rfl ?_
  refine ok_ldc dX5_leave_9 w_849 ?_
  refine ok_callV (M' := mX5_finds) (b' := (0, 0)) (As := [_]) (cx := 5) dX5_leave_11 iX5_finds w_850 (by decide) rfl (by first | exact is_lit hv (by decide) rfl | exact is_sq hv hq | exact is_row hv hq | exact is_pn hv hq (by assumption) | assumption) rfl (Nat.le_of_ble_eq_true rfl) ⟨Nat.le_of_ble_eq_true rfl, Nat.le_of_ble_eq_true rfl⟩ (Nat.le_of_ble_eq_true rfl) rfl rfl ?_
  refine sp_X5_finds hv (k := 0) (by decide) (by decide) ?_
  refine ok_ireturn dX5_leave_14 rfl rfl ?_
  first | exact K | (simp only [↓reduceIte] at K; exact K)
theorem sp_X5_its_r {g : GG} {h : Hp} {Post : Option Value → Hp → Prop} (hv : Inv h) {p f : Nat} (hp : p < 10) (hf : f < 7) (K : Post (some (.int (hI h 50 (7 + 7 * p + f)))) h) : Sp g mX5_its [.ref 49, .int (nI p), .int (nI f)] h Post := by
  show Go g mX5_its 0 [_, _, _] [] _ _ _
  refine ok_aload_n dX5_its_0 rfl rfl ?_
  refine ok_getR dX5_its_1 f_X5_7 (by first | exact is_lit hv (by decide) rfl | exact is_sq hv hq | exact is_row hv hq | exact is_pn hv hq (by assumption) | assumption) rfl (by first | exact rf hv rfl | exact rf_row hv hq | assumption) ?_
  refine ok_bipush (v := 7) dX5_its_4 (by decide) ?_
  refine ok_bipush (v := 7) dX5_its_6 (by decide) ?_
  refine ok_iload_n dX5_its_8 rfl rfl ?_
  refine ok_imul dX5_its_9 ?_
  refine ok_iadd dX5_its_10 ?_
  refine ok_iload_n dX5_its_11 rfl rfl ?_
  refine ok_iadd dX5_its_12 ?_
  rw [ix7 p (by omega) f hf]
  refine ok_iaload dX5_its_13 (is_lit hv (by decide) rfl) (vp_in_nI (by omega) (by decide)) ?_
  rw [nI_clamp (by omega)]
  refine ok_ireturn dX5_its_14 rfl rfl ?_
  first | exact K | (simp only [↓reduceIte] at K; exact K)
theorem RM.drop {h : Hp} {n : Nat} {r : Nat → Int32} (R : RM 50 h (n + 1) r) : RM 50 (uI h 50 0 (nI n)) n (w_set r 0 (nI n)) := by
  obtain ⟨a, b, c, d⟩ := R
  refine ⟨by omega, if_pos rfl, fun k hk => ?_, fun p f hp hf => ?_⟩
  · rw [at_uo]
    show _ = if k = 0 then nI n else r k
    by_cases e : k = 0
    · rw [if_pos e, if_pos e]
    · rw [if_neg e, if_neg e]; exact c k hk
  · rw [at_uo, if_neg (by omega), ro_set (by decide)]
    exact d p f (by omega) hf
theorem mv_t {f t : Nat} : mv f t t = f := if_pos rfl
theorem sp_X5_leave {g : GG} {h : Hp} {Post : Option Value → Hp → Prop} (hv : Inv h) {n : Nat} {r : Nat → Int32} (R : RM 50 h (n + 1) r) {j : Nat} (hj : j < n + 1) (K : ∀ h', QM h h' → RM 50 h' n (w_set (w_pm r (mv j n)) 0 (nI n)) → Post (some (.int (ro r j 5))) h') : Sp g mX5_leave [.ref 49, .int (nI j)] h Post := by
  show Go g mX5_leave 0 [_, _] [] _ _ _
  have hn := R.1
  refine ok_aload_n dX5_leave_0 rfl rfl ?_
  refine ok_iload_n dX5_leave_1 rfl rfl ?_
  refine ok_callV (M' := mX5_isOne) (b' := (0, 0)) (As := [_]) (cx := 5) dX5_leave_2 iX5_isOne w_867 (by decide) rfl (by first | exact is_lit hv (by decide) rfl | exact is_sq hv hq | exact is_row hv hq | exact is_pn hv hq (by assumption) | assumption) rfl (Nat.le_of_ble_eq_true rfl) ⟨Nat.le_of_ble_eq_true rfl, Nat.le_of_ble_eq_true rfl⟩ (Nat.le_of_ble_eq_true rfl) rfl rfl ?_
  refine sp_X5_isOne hv R _ ?_
  rw [one_ok R.1 hj]
  refine ok_if_ne (tgt := 15) dX5_leave_5 (by decide) (fun _ => ?_) (fun c9 => absurd c9 (by decide))
  refine ok_aload_n dX5_leave_15 rfl rfl ?_
  refine ok_iload_n dX5_leave_16 rfl rfl ?_
  refine ok_aload_n dX5_leave_17 rfl rfl ?_
  refine ok_getR dX5_leave_18 f_X5_7 (by first | exact is_lit hv (by decide) rfl | exact is_sq hv hq | exact is_row hv hq | exact is_pn hv hq (by assumption) | assumption) rfl (by first | exact rf hv rfl | exact rf_row hv hq | assumption) ?_
  refine ok_iconst (v := 0) dX5_leave_21 (by decide) ?_
  refine ok_iaload dX5_leave_22 (is_lit hv (by decide) rfl) (by unfold vp_in; decide) ?_
  rw [show hI h 50 (Int32.toNatClampNeg 0) = nI (n + 1) from (R.2.2.1 0 (by decide)).trans R.2.1]
  refine ok_iconst (v := 1) dX5_leave_23 (by decide) ?_
  refine ok_isub dX5_leave_24 ?_
  rw [nI_p1 (by omega)]
  refine ok_callV (M' := mX5_goTo) (b' := (0, 0)) (As := [_, _]) (cx := 5) dX5_leave_25 iX5_goTo w_910 (by decide) rfl (by first | exact is_lit hv (by decide) rfl | exact is_sq hv hq | exact is_row hv hq | exact is_pn hv hq (by assumption) | assumption) rfl (Nat.le_of_ble_eq_true rfl) ⟨Nat.le_of_ble_eq_true rfl, Nat.le_of_ble_eq_true rfl⟩ (Nat.le_of_ble_eq_true rfl) rfl rfl ?_
  refine sp_X5_goTo hv R (t := n) hj (by omega) (fun h1 M1 R1 => ?_)
  have M1 := M1.qm
  have hv := M1.inv hv
  refine ok_aload_n dX5_leave_28 rfl rfl ?_
  refine ok_getR dX5_leave_29 f_X5_7 (by first | exact is_lit hv (by decide) rfl | exact is_sq hv hq | exact is_row hv hq | exact is_pn hv hq (by assumption) | assumption) rfl (by first | exact rf hv rfl | exact rf_row hv hq | assumption) ?_
  refine ok_iconst (v := 0) dX5_leave_32 (by decide) ?_
  refine ok_dup2 dX5_leave_33 rfl rfl ?_
  refine ok_iaload dX5_leave_34 (is_lit hv (by decide) rfl) (by unfold vp_in; decide) ?_
  refine ok_iconst (v := 1) dX5_leave_35 (by decide) ?_
  refine ok_isub dX5_leave_36 ?_
  rw [show hI h1 50 (Int32.toNatClampNeg 0) = nI (n + 1) from (R1.2.2.1 0 (by decide)).trans R1.2.1, nI_p1 (by omega)]
  refine ok_iastore dX5_leave_37 (is_lit hv (by decide) rfl) (by unfold vp_in; decide) ?_
  refine ok_aload_n dX5_leave_38 rfl rfl ?_
  refine ok_aload_n dX5_leave_39 rfl rfl ?_
  refine ok_getR dX5_leave_40 f_X5_7 (by first | exact is_lit hv (by decide) rfl | exact is_sq hv hq | exact is_row hv hq | exact is_pn hv hq (by assumption) | assumption) rfl (by first | exact rf hv rfl | exact rf_row hv hq | assumption) ?_
  refine ok_iconst (v := 0) dX5_leave_43 (by decide) ?_
  refine ok_iaload dX5_leave_44 (is_lit hv (by decide) rfl) (by unfold vp_in; decide) ?_
  rw [at_uI]
  refine ok_iconst (v := 5) dX5_leave_45 (by decide) ?_
  refine ok_callV (M' := mX5_its) (b' := (0, 0)) (As := [_, _]) (cx := 5) dX5_leave_46 iX5_its w_871 (by decide) rfl (by first | exact is_lit hv (by decide) rfl | exact is_sq hv hq | exact is_row hv hq | exact is_pn hv hq (by assumption) | assumption) rfl (Nat.le_of_ble_eq_true rfl) ⟨Nat.le_of_ble_eq_true rfl, Nat.le_of_ble_eq_true rfl⟩ (Nat.le_of_ble_eq_true rfl) rfl rfl ?_
  refine sp_X5_its_r (p := n) (f := 5) (by exact hv) (by omega) (by decide) ?_
  rw [at_un (show 7 + 7 * n + 5 ≠ Int32.toNatClampNeg 0 from Nat.succ_ne_zero _), R1.2.2.2 n 5 (by omega) (by decide), w_pm, ro_mk (by decide), mv_t]
  refine ok_ireturn dX5_leave_49 rfl rfl ?_
  exact K _ (M1.u (by omega)) R1.drop
theorem sp_X5_coins_b {g : GG} {h : Hp} {Post : Option Value → Hp → Prop} (hv : Inv h) {n : Nat} {r : Nat → Int32} (R : RM 50 h n r) (v : Int32) (hb : v < 0 ∨ 999 < v) (K : Post (some (.int (-1000000001))) (hfm h 0)) : Sp g mX5_coins [.ref 49, .int v] h Post := by
  show Go g mX5_coins 0 [_, _, _] [] _ _ _
  refine ok_iload_n dX5_coins_0 rfl rfl ?_
  refine ok_iconst (v := 0) dX5_coins_1 (by decide) ?_
  refine ok_sipush (v := 999) dX5_coins_2 (by decide) ?_
  refine ok_callS (M' := mX5_in) (b' := (0, 0)) (As := [_, _, _]) dX5_coins_5 iX5_in w_846 rfl (Nat.le_of_ble_eq_true rfl) ⟨Nat.le_of_ble_eq_true rfl, Nat.le_of_ble_eq_true rfl⟩ (Nat.le_of_ble_eq_true rfl) rfl rfl ?_
  refine sp_X5_in _ _ _ ?_
  rw [wi_bad hb]
  refine ok_if_ne (tgt := 18) dX5_coins_8 (by decide) (fun c9 => absurd c9 (fun c => c rfl)) (fun _ => ?_)
  refine ok_aload_n dX5_coins_11 rfl rfl ?_
  refine ok_ldc dX5_coins_12 w_849 ?_
  refine ok_callV (M' := mX5_finds) (b' := (0, 0)) (As := [_]) (cx := 5) dX5_coins_14 iX5_finds w_850 (by decide) rfl (by first | exact is_lit hv (by decide) rfl | exact is_sq hv hq | exact is_row hv hq | exact is_pn hv hq (by assumption) | assumption) rfl (Nat.le_of_ble_eq_true rfl) ⟨Nat.le_of_ble_eq_true rfl, Nat.le_of_ble_eq_true rfl⟩ (Nat.le_of_ble_eq_true rfl) rfl rfl ?_
  refine sp_X5_finds hv (k := 0) (by decide) (by decide) ?_
  refine ok_ireturn dX5_coins_17 rfl rfl ?_
  first | exact K | (simp only [↓reduceIte] at K; exact K)
theorem sp_X5_coins {g : GG} {h : Hp} {Post : Option Value → Hp → Prop} (hv : Inv h) {n : Nat} {r : Nat → Int32} (R : RM 50 h n r) (v : Int32) (h1 : ¬ v < 0) (h2 : ¬ 999 < v) (K : ∀ h', QM h h' → RM 50 h' (n) (w_set r 1 v) → Post (some (.int (r 1))) h') : Sp g mX5_coins [.ref 49, .int v] h Post := by
  show Go g mX5_coins 0 [_, _, _] [] _ _ _
  refine ok_iload_n dX5_coins_0 rfl rfl ?_
  refine ok_iconst (v := 0) dX5_coins_1 (by decide) ?_
  refine ok_sipush (v := 999) dX5_coins_2 (by decide) ?_
  refine ok_callS (M' := mX5_in) (b' := (0, 0)) (As := [_, _, _]) dX5_coins_5 iX5_in w_846 rfl (Nat.le_of_ble_eq_true rfl) ⟨Nat.le_of_ble_eq_true rfl, Nat.le_of_ble_eq_true rfl⟩ (Nat.le_of_ble_eq_true rfl) rfl rfl ?_
  refine sp_X5_in _ _ _ ?_
  rw [wi_ok h1 h2]
  refine ok_if_ne (tgt := 18) dX5_coins_8 (by decide) (fun _ => ?_) (fun c9 => absurd c9 (by decide))
  refine ok_aload_n dX5_coins_18 rfl rfl ?_
  refine ok_getR dX5_coins_19 f_X5_7 (by first | exact is_lit hv (by decide) rfl | exact is_sq hv hq | exact is_row hv hq | exact is_pn hv hq (by assumption) | assumption) rfl (by first | exact rf hv rfl | exact rf_row hv hq | assumption) ?_
  refine ok_iconst (v := 1) dX5_coins_22 (by decide) ?_
  refine ok_iaload dX5_coins_23 (is_lit hv (by decide) rfl) (by unfold vp_in; decide) ?_
  rw [show hI h 50 (Int32.toNatClampNeg 1) = r 1 from R.2.2.1 1 (by decide)]
  refine ok_istore_n (lo' := [_, _, _]) dX5_coins_24 rfl (Nat.le_of_ble_eq_true rfl) rfl rfl ?_
  refine ok_aload_n dX5_coins_25 rfl rfl ?_
  refine ok_getR dX5_coins_26 f_X5_7 (by first | exact is_lit hv (by decide) rfl | exact is_sq hv hq | exact is_row hv hq | exact is_pn hv hq (by assumption) | assumption) rfl (by first | exact rf hv rfl | exact rf_row hv hq | assumption) ?_
  refine ok_iconst (v := 1) dX5_coins_29 (by decide) ?_
  refine ok_iload_n dX5_coins_30 rfl rfl ?_
  refine ok_iastore dX5_coins_31 (is_lit hv (by decide) rfl) (by unfold vp_in; decide) ?_
  refine ok_iload_n dX5_coins_32 rfl rfl ?_
  refine ok_ireturn dX5_coins_33 rfl rfl ?_
  exact K _ (QM.rf.u (by omega)) (R.u (by decide))
theorem sp_X5_law_b {g : GG} {h : Hp} {Post : Option Value → Hp → Prop} (hv : Inv h) {n : Nat} {r : Nat → Int32} (R : RM 50 h n r) (v : Int32) (hb : v < 0 ∨ 2 < v) (K : Post (some (.int (-1000000001))) (hfm h 0)) : Sp g mX5_law [.ref 49, .int v] h Post := by
  show Go g mX5_law 0 [_, _, _] [] _ _ _
  refine ok_iload_n dX5_law_0 rfl rfl ?_
  refine ok_iconst (v := 0) dX5_law_1 (by decide) ?_
  refine ok_iconst (v := 2) dX5_law_2 (by decide) ?_
  refine ok_callS (M' := mX5_in) (b' := (0, 0)) (As := [_, _, _]) dX5_law_3 iX5_in w_846 rfl (Nat.le_of_ble_eq_true rfl) ⟨Nat.le_of_ble_eq_true rfl, Nat.le_of_ble_eq_true rfl⟩ (Nat.le_of_ble_eq_true rfl) rfl rfl ?_
  refine sp_X5_in _ _ _ ?_
  rw [wi_bad hb]
  refine ok_if_ne (tgt := 16) dX5_law_6 (by decide) (fun c9 => absurd c9 (fun c => c rfl)) (fun _ => ?_)
  refine ok_aload_n dX5_law_9 rfl rfl ?_
  refine ok_ldc dX5_law_10 w_849 ?_
  refine ok_callV (M' := mX5_finds) (b' := (0, 0)) (As := [_]) (cx := 5) dX5_law_12 iX5_finds w_850 (by decide) rfl (by first | exact is_lit hv (by decide) rfl | exact is_sq hv hq | exact is_row hv hq | exact is_pn hv hq (by assumption) | assumption) rfl (Nat.le_of_ble_eq_true rfl) ⟨Nat.le_of_ble_eq_true rfl, Nat.le_of_ble_eq_true rfl⟩ (Nat.le_of_ble_eq_true rfl) rfl rfl ?_
  refine sp_X5_finds hv (k := 0) (by decide) (by decide) ?_
  refine ok_ireturn dX5_law_15 rfl rfl ?_
  first | exact K | (simp only [↓reduceIte] at K; exact K)
theorem sp_X5_law {g : GG} {h : Hp} {Post : Option Value → Hp → Prop} (hv : Inv h) {n : Nat} {r : Nat → Int32} (R : RM 50 h n r) (v : Int32) (h1 : ¬ v < 0) (h2 : ¬ 2 < v) (K : ∀ h', QM h h' → RM 50 h' (n) (w_set r 2 v) → Post (some (.int (r 2))) h') : Sp g mX5_law [.ref 49, .int v] h Post := by
  show Go g mX5_law 0 [_, _, _] [] _ _ _
  refine ok_iload_n dX5_law_0 rfl rfl ?_
  refine ok_iconst (v := 0) dX5_law_1 (by decide) ?_
  refine ok_iconst (v := 2) dX5_law_2 (by decide) ?_
  refine ok_callS (M' := mX5_in) (b' := (0, 0)) (As := [_, _, _]) dX5_law_3 iX5_in w_846 rfl (Nat.le_of_ble_eq_true rfl) ⟨Nat.le_of_ble_eq_true rfl, Nat.le_of_ble_eq_true rfl⟩ (Nat.le_of_ble_eq_true rfl) rfl rfl ?_
  refine sp_X5_in _ _ _ ?_
  rw [wi_ok h1 h2]
  refine ok_if_ne (tgt := 16) dX5_law_6 (by decide) (fun _ => ?_) (fun c9 => absurd c9 (by decide))
  refine ok_aload_n dX5_law_16 rfl rfl ?_
  refine ok_getR dX5_law_17 f_X5_7 (by first | exact is_lit hv (by decide) rfl | exact is_sq hv hq | exact is_row hv hq | exact is_pn hv hq (by assumption) | assumption) rfl (by first | exact rf hv rfl | exact rf_row hv hq | assumption) ?_
  refine ok_iconst (v := 2) dX5_law_20 (by decide) ?_
  refine ok_iaload dX5_law_21 (is_lit hv (by decide) rfl) (by unfold vp_in; decide) ?_
  rw [show hI h 50 (Int32.toNatClampNeg 2) = r 2 from R.2.2.1 2 (by decide)]
  refine ok_istore_n (lo' := [_, _, _]) dX5_law_22 rfl (Nat.le_of_ble_eq_true rfl) rfl rfl ?_
  refine ok_aload_n dX5_law_23 rfl rfl ?_
  refine ok_getR dX5_law_24 f_X5_7 (by first | exact is_lit hv (by decide) rfl | exact is_sq hv hq | exact is_row hv hq | exact is_pn hv hq (by assumption) | assumption) rfl (by first | exact rf hv rfl | exact rf_row hv hq | assumption) ?_
  refine ok_iconst (v := 2) dX5_law_27 (by decide) ?_
  refine ok_iload_n dX5_law_28 rfl rfl ?_
  refine ok_iastore dX5_law_29 (is_lit hv (by decide) rfl) (by unfold vp_in; decide) ?_
  refine ok_iload_n dX5_law_30 rfl rfl ?_
  refine ok_ireturn dX5_law_31 rfl rfl ?_
  exact K _ (QM.rf.u (by omega)) (R.u (by decide))
theorem sp_X5_diver_b {g : GG} {h : Hp} {Post : Option Value → Hp → Prop} (hv : Inv h) {n : Nat} {r : Nat → Int32} (R : RM 50 h n r) (w l : Int32) (hb : l < -20 ∨ 20 < l) (K : Post (some (.int (-1000000001))) (hfm h 0)) : Sp g mX5_diver [.ref 49, .int w, .int l] h Post := by
  show Go g mX5_diver 0 [_, _, _, _] [] _ _ _
  refine ok_iload_n dX5_diver_0 rfl rfl ?_
  refine ok_bipush (v := -20) dX5_diver_1 (by decide) ?_
  refine ok_bipush (v := 20) dX5_diver_3 (by decide) ?_
  refine ok_callS (M' := mX5_in) (b' := (0, 0)) (As := [_, _, _]) dX5_diver_5 iX5_in w_846 rfl (Nat.le_of_ble_eq_true rfl) ⟨Nat.le_of_ble_eq_true rfl, Nat.le_of_ble_eq_true rfl⟩ (Nat.le_of_ble_eq_true rfl) rfl rfl ?_
  refine sp_X5_in _ _ _ ?_
  rw [wi_bad hb]
  refine ok_if_ne (tgt := 18) dX5_diver_8 (by decide) (fun c9 => absurd c9 (fun c => c rfl)) (fun _ => ?_)
  refine ok_aload_n dX5_diver_11 rfl rfl ?_
  refine ok_ldc dX5_diver_12 w_849 ?_
  refine ok_callV (M' := mX5_finds) (b' := (0, 0)) (As := [_]) (cx := 5) dX5_diver_14 iX5_finds w_850 (by decide) rfl (by first | exact is_lit hv (by decide) rfl | exact is_sq hv hq | exact is_row hv hq | exact is_pn hv hq (by assumption) | assumption) rfl (Nat.le_of_ble_eq_true rfl) ⟨Nat.le_of_ble_eq_true rfl, Nat.le_of_ble_eq_true rfl⟩ (Nat.le_of_ble_eq_true rfl) rfl rfl ?_
  refine sp_X5_finds hv (k := 0) (by decide) (by decide) ?_
  refine ok_ireturn dX5_diver_17 rfl rfl ?_
  first | exact K | (simp only [↓reduceIte] at K; exact K)
theorem sp_X5_diver {g : GG} {h : Hp} {Post : Option Value → Hp → Prop} (hv : Inv h) {n : Nat} {r : Nat → Int32} (R : RM 50 h n r) {w l : Int32} (hw : B01 w) (h1 : ¬ l < -20) (h2 : ¬ 20 < l) (K : ∀ h', QM h h' → RM 50 h' (n) (w_div r w l) → Post (some (.int (r 3))) h') : Sp g mX5_diver [.ref 49, .int w, .int l] h Post := by
  show Go g mX5_diver 0 [_, _, _, _] [] _ _ _
  rcases hw with rfl | rfl
  · refine ok_iload_n dX5_diver_0 rfl rfl ?_
    refine ok_bipush (v := -20) dX5_diver_1 (by decide) ?_
    refine ok_bipush (v := 20) dX5_diver_3 (by decide) ?_
    refine ok_callS (M' := mX5_in) (b' := (0, 0)) (As := [_, _, _]) dX5_diver_5 iX5_in w_846 rfl (Nat.le_of_ble_eq_true rfl) ⟨Nat.le_of_ble_eq_true rfl, Nat.le_of_ble_eq_true rfl⟩ (Nat.le_of_ble_eq_true rfl) rfl rfl ?_
    refine sp_X5_in _ _ _ ?_
    rw [wi_ok h1 h2]
    refine ok_if_ne (tgt := 18) dX5_diver_8 (by decide) (fun _ => ?_) (fun c9 => absurd c9 (by decide))
    refine ok_aload_n dX5_diver_18 rfl rfl ?_
    refine ok_getR dX5_diver_19 f_X5_7 (by first | exact is_lit hv (by decide) rfl | exact is_sq hv hq | exact is_row hv hq | exact is_pn hv hq (by assumption) | assumption) rfl (by first | exact rf hv rfl | exact rf_row hv hq | assumption) ?_
    refine ok_iconst (v := 3) dX5_diver_22 (by decide) ?_
    refine ok_iaload dX5_diver_23 (is_lit hv (by decide) rfl) (by unfold vp_in; decide) ?_
    rw [show hI h 50 (Int32.toNatClampNeg 3) = r 3 from R.2.2.1 3 (by decide)]
    refine ok_istore_n (lo' := [_, _, _, _]) dX5_diver_24 rfl (Nat.le_of_ble_eq_true rfl) rfl rfl ?_
    refine ok_aload_n dX5_diver_25 rfl rfl ?_
    refine ok_getR dX5_diver_26 f_X5_7 (by first | exact is_lit hv (by decide) rfl | exact is_sq hv hq | exact is_row hv hq | exact is_pn hv hq (by assumption) | assumption) rfl (by first | exact rf hv rfl | exact rf_row hv hq | assumption) ?_
    refine ok_iconst (v := 3) dX5_diver_29 (by decide) ?_
    refine ok_iload_n dX5_diver_30 rfl rfl ?_
    refine ok_if_eq (tgt := 38) dX5_diver_31 (by decide) (fun _ => ?_) (fun c9 => absurd rfl c9)
    refine ok_iconst (v := 0) dX5_diver_38 (by decide) ?_
    refine ok_iastore dX5_diver_39 (is_lit hv (by decide) rfl) (by unfold vp_in; decide) ?_
    refine ok_aload_n dX5_diver_40 rfl rfl ?_
    refine ok_getR dX5_diver_41 f_X5_7 (by first | exact is_lit hv (by decide) rfl | exact is_sq hv hq | exact is_row hv hq | exact is_pn hv hq (by assumption) | assumption) rfl (by first | exact rf hv rfl | exact rf_row hv hq | assumption) ?_
    refine ok_iconst (v := 4) dX5_diver_44 (by decide) ?_
    refine ok_iload_n dX5_diver_45 rfl rfl ?_
    refine ok_if_eq (tgt := 53) dX5_diver_46 (by decide) (fun _ => ?_) (fun c9 => absurd rfl c9)
    refine ok_iconst (v := 0) dX5_diver_53 (by decide) ?_
    refine ok_iastore dX5_diver_54 (is_lit hv (by decide) rfl) (by unfold vp_in; decide) ?_
    refine ok_iload_n dX5_diver_55 rfl rfl ?_
    refine ok_ireturn dX5_diver_56 rfl rfl ?_
    exact K _ ((QM.rf.u (a := 50) (by omega)).u (a := 50) (by omega)) ((R.u (k := 3) (by decide)).u (k := 4) (by decide))
  · refine ok_iload_n dX5_diver_0 rfl rfl ?_
    refine ok_bipush (v := -20) dX5_diver_1 (by decide) ?_
    refine ok_bipush (v := 20) dX5_diver_3 (by decide) ?_
    refine ok_callS (M' := mX5_in) (b' := (0, 0)) (As := [_, _, _]) dX5_diver_5 iX5_in w_846 rfl (Nat.le_of_ble_eq_true rfl) ⟨Nat.le_of_ble_eq_true rfl, Nat.le_of_ble_eq_true rfl⟩ (Nat.le_of_ble_eq_true rfl) rfl rfl ?_
    refine sp_X5_in _ _ _ ?_
    rw [wi_ok h1 h2]
    refine ok_if_ne (tgt := 18) dX5_diver_8 (by decide) (fun _ => ?_) (fun c9 => absurd c9 (by decide))
    refine ok_aload_n dX5_diver_18 rfl rfl ?_
    refine ok_getR dX5_diver_19 f_X5_7 (by first | exact is_lit hv (by decide) rfl | exact is_sq hv hq | exact is_row hv hq | exact is_pn hv hq (by assumption) | assumption) rfl (by first | exact rf hv rfl | exact rf_row hv hq | assumption) ?_
    refine ok_iconst (v := 3) dX5_diver_22 (by decide) ?_
    refine ok_iaload dX5_diver_23 (is_lit hv (by decide) rfl) (by unfold vp_in; decide) ?_
    rw [show hI h 50 (Int32.toNatClampNeg 3) = r 3 from R.2.2.1 3 (by decide)]
    refine ok_istore_n (lo' := [_, _, _, _]) dX5_diver_24 rfl (Nat.le_of_ble_eq_true rfl) rfl rfl ?_
    refine ok_aload_n dX5_diver_25 rfl rfl ?_
    refine ok_getR dX5_diver_26 f_X5_7 (by first | exact is_lit hv (by decide) rfl | exact is_sq hv hq | exact is_row hv hq | exact is_pn hv hq (by assumption) | assumption) rfl (by first | exact rf hv rfl | exact rf_row hv hq | assumption) ?_
    refine ok_iconst (v := 3) dX5_diver_29 (by decide) ?_
    refine ok_iload_n dX5_diver_30 rfl rfl ?_
    refine ok_if_eq (tgt := 38) dX5_diver_31 (by decide) (fun c9 => absurd c9 (by decide)) (fun _ => ?_)
    refine ok_iconst (v := 1) dX5_diver_34 (by decide) ?_
    refine ok_goto (tgt := 39) dX5_diver_35 (by decide) ?_
    refine ok_iastore dX5_diver_39 (is_lit hv (by decide) rfl) (by unfold vp_in; decide) ?_
    refine ok_aload_n dX5_diver_40 rfl rfl ?_
    refine ok_getR dX5_diver_41 f_X5_7 (by first | exact is_lit hv (by decide) rfl | exact is_sq hv hq | exact is_row hv hq | exact is_pn hv hq (by assumption) | assumption) rfl (by first | exact rf hv rfl | exact rf_row hv hq | assumption) ?_
    refine ok_iconst (v := 4) dX5_diver_44 (by decide) ?_
    refine ok_iload_n dX5_diver_45 rfl rfl ?_
    refine ok_if_eq (tgt := 53) dX5_diver_46 (by decide) (fun c9 => absurd c9 (by decide)) (fun _ => ?_)
    refine ok_iload_n dX5_diver_49 rfl rfl ?_
    refine ok_goto (tgt := 54) dX5_diver_50 (by decide) ?_
    refine ok_iastore dX5_diver_54 (is_lit hv (by decide) rfl) (by unfold vp_in; decide) ?_
    refine ok_iload_n dX5_diver_55 rfl rfl ?_
    refine ok_ireturn dX5_diver_56 rfl rfl ?_
    exact K _ ((QM.rf.u (a := 50) (by omega)).u (a := 50) (by omega)) ((R.u (k := 3) (by decide)).u (k := 4) (by decide))
theorem sp_X5_now {g : GG} {h : Hp} {Post : Option Value → Hp → Prop} (hv : Inv h) {n : Nat} {r : Nat → Int32} (R : RM 50 h n r) {w : Nat} (hw : w < 9) (K : Post (some (.int (w_now r n w))) h) : Sp g mX5_now [.ref 49, .int (nI w)] h Post := by
  show Go g mX5_now 0 [_, _] [] _ _ _
  refine ok_iload_n dX5_now_0 rfl rfl ?_
  rcases (show w = 0 ∨ w = 1 ∨ w = 2 ∨ w = 3 ∨ w = 4 ∨ w = 5 ∨ w = 6 ∨ w = 7 ∨ w = 8 by omega) with ew | ew | ew | ew | ew | ew | ew | ew | ew
  · subst ew
    refine ok_tableIn (tgt := 52) (off := 51) dX5_now_1 (by decide) (by decide) (by decide) (by decide) ?_
    refine ok_aload_n dX5_now_52 rfl rfl ?_
    refine ok_getR dX5_now_53 f_X5_7 (by first | exact is_lit hv (by decide) rfl | exact is_sq hv hq | exact is_row hv hq | exact is_pn hv hq (by assumption) | assumption) rfl (by first | exact rf hv rfl | exact rf_row hv hq | assumption) ?_
    refine ok_iconst (v := 5) dX5_now_56 (by decide) ?_
    refine ok_iaload dX5_now_57 (is_lit hv (by decide) rfl) (by unfold vp_in; decide) ?_
    rw [show hI h 50 (Int32.toNatClampNeg 5) = r 5 from R.2.2.1 5 (by decide)]
    refine ok_ireturn dX5_now_58 rfl rfl ?_
    exact K
  · subst ew
    refine ok_tableIn (tgt := 59) (off := 58) dX5_now_1 (by decide) (by decide) (by decide) (by decide) ?_
    refine ok_aload_n dX5_now_59 rfl rfl ?_
    refine ok_getR dX5_now_60 f_X5_7 (by first | exact is_lit hv (by decide) rfl | exact is_sq hv hq | exact is_row hv hq | exact is_pn hv hq (by assumption) | assumption) rfl (by first | exact rf hv rfl | exact rf_row hv hq | assumption) ?_
    refine ok_iconst (v := 1) dX5_now_63 (by decide) ?_
    refine ok_iaload dX5_now_64 (is_lit hv (by decide) rfl) (by unfold vp_in; decide) ?_
    rw [show hI h 50 (Int32.toNatClampNeg 1) = r 1 from R.2.2.1 1 (by decide)]
    refine ok_ireturn dX5_now_65 rfl rfl ?_
    exact K
  · subst ew
    refine ok_tableIn (tgt := 66) (off := 65) dX5_now_1 (by decide) (by decide) (by decide) (by decide) ?_
    refine ok_aload_n dX5_now_66 rfl rfl ?_
    refine ok_getR dX5_now_67 f_X5_7 (by first | exact is_lit hv (by decide) rfl | exact is_sq hv hq | exact is_row hv hq | exact is_pn hv hq (by assumption) | assumption) rfl (by first | exact rf hv rfl | exact rf_row hv hq | assumption) ?_
    refine ok_iconst (v := 2) dX5_now_70 (by decide) ?_
    refine ok_iaload dX5_now_71 (is_lit hv (by decide) rfl) (by unfold vp_in; decide) ?_
    rw [show hI h 50 (Int32.toNatClampNeg 2) = r 2 from R.2.2.1 2 (by decide)]
    refine ok_ireturn dX5_now_72 rfl rfl ?_
    exact K
  · subst ew
    refine ok_tableIn (tgt := 73) (off := 72) dX5_now_1 (by decide) (by decide) (by decide) (by decide) ?_
    refine ok_aload_n dX5_now_73 rfl rfl ?_
    refine ok_getR dX5_now_74 f_X5_7 (by first | exact is_lit hv (by decide) rfl | exact is_sq hv hq | exact is_row hv hq | exact is_pn hv hq (by assumption) | assumption) rfl (by first | exact rf hv rfl | exact rf_row hv hq | assumption) ?_
    refine ok_iconst (v := 3) dX5_now_77 (by decide) ?_
    refine ok_iaload dX5_now_78 (is_lit hv (by decide) rfl) (by unfold vp_in; decide) ?_
    rw [show hI h 50 (Int32.toNatClampNeg 3) = r 3 from R.2.2.1 3 (by decide)]
    refine ok_ireturn dX5_now_79 rfl rfl ?_
    exact K
  · subst ew
    refine ok_tableIn (tgt := 80) (off := 79) dX5_now_1 (by decide) (by decide) (by decide) (by decide) ?_
    refine ok_aload_n dX5_now_80 rfl rfl ?_
    refine ok_getR dX5_now_81 f_X5_7 (by first | exact is_lit hv (by decide) rfl | exact is_sq hv hq | exact is_row hv hq | exact is_pn hv hq (by assumption) | assumption) rfl (by first | exact rf hv rfl | exact rf_row hv hq | assumption) ?_
    refine ok_iconst (v := 4) dX5_now_84 (by decide) ?_
    refine ok_iaload dX5_now_85 (is_lit hv (by decide) rfl) (by unfold vp_in; decide) ?_
    rw [show hI h 50 (Int32.toNatClampNeg 4) = r 4 from R.2.2.1 4 (by decide)]
    refine ok_ireturn dX5_now_86 rfl rfl ?_
    exact K
  · subst ew
    refine ok_tableIn (tgt := 87) (off := 86) dX5_now_1 (by decide) (by decide) (by decide) (by decide) ?_
    refine ok_aload_n dX5_now_87 rfl rfl ?_
    refine ok_getR dX5_now_88 f_X5_7 (by first | exact is_lit hv (by decide) rfl | exact is_sq hv hq | exact is_row hv hq | exact is_pn hv hq (by assumption) | assumption) rfl (by first | exact rf hv rfl | exact rf_row hv hq | assumption) ?_
    refine ok_bipush (v := 6) dX5_now_91 (by decide) ?_
    refine ok_iaload dX5_now_93 (is_lit hv (by decide) rfl) (by unfold vp_in; decide) ?_
    rw [show hI h 50 (Int32.toNatClampNeg 6) = r 6 from R.2.2.1 6 (by decide)]
    refine ok_ireturn dX5_now_94 rfl rfl ?_
    exact K
  · subst ew
    refine ok_tableIn (tgt := 95) (off := 94) dX5_now_1 (by decide) (by decide) (by decide) (by decide) ?_
    refine ok_aload_n dX5_now_95 rfl rfl ?_
    refine ok_iconst (v := 1) dX5_now_96 (by decide) ?_
    refine ok_callV (M' := mX5_sumOf) (b' := (0, 0)) (As := [_]) (cx := 5) dX5_now_97 iX5_sumOf w_956 (by decide) rfl (by first | exact is_lit hv (by decide) rfl | exact is_sq hv hq | exact is_row hv hq | exact is_pn hv hq (by assumption) | assumption) rfl (Nat.le_of_ble_eq_true rfl) ⟨Nat.le_of_ble_eq_true rfl, Nat.le_of_ble_eq_true rfl⟩ (Nat.le_of_ble_eq_true rfl) rfl rfl ?_
    refine sp_X5_sumOf (f := 1) hv R (by decide) ?_
    refine ok_ireturn dX5_now_100 rfl rfl ?_
    exact K
  · subst ew
    refine ok_tableIn (tgt := 101) (off := 100) dX5_now_1 (by decide) (by decide) (by decide) (by decide) ?_
    refine ok_aload_n dX5_now_101 rfl rfl ?_
    refine ok_iconst (v := 5) dX5_now_102 (by decide) ?_
    refine ok_callV (M' := mX5_sumOf) (b' := (0, 0)) (As := [_]) (cx := 5) dX5_now_103 iX5_sumOf w_956 (by decide) rfl (by first | exact is_lit hv (by decide) rfl | exact is_sq hv hq | exact is_row hv hq | exact is_pn hv hq (by assumption) | assumption) rfl (Nat.le_of_ble_eq_true rfl) ⟨Nat.le_of_ble_eq_true rfl, Nat.le_of_ble_eq_true rfl⟩ (Nat.le_of_ble_eq_true rfl) rfl rfl ?_
    refine sp_X5_sumOf (f := 5) hv R (by decide) ?_
    refine ok_ireturn dX5_now_106 rfl rfl ?_
    exact K
  · subst ew
    refine ok_tableIn (tgt := 107) (off := 106) dX5_now_1 (by decide) (by decide) (by decide) (by decide) ?_
    refine ok_aload_n dX5_now_107 rfl rfl ?_
    refine ok_bipush (v := 6) dX5_now_108 (by decide) ?_
    refine ok_callV (M' := mX5_sumOf) (b' := (0, 0)) (As := [_]) (cx := 5) dX5_now_110 iX5_sumOf w_956 (by decide) rfl (by first | exact is_lit hv (by decide) rfl | exact is_sq hv hq | exact is_row hv hq | exact is_pn hv hq (by assumption) | assumption) rfl (Nat.le_of_ble_eq_true rfl) ⟨Nat.le_of_ble_eq_true rfl, Nat.le_of_ble_eq_true rfl⟩ (Nat.le_of_ble_eq_true rfl) rfl rfl ?_
    refine sp_X5_sumOf (f := 6) hv R (by decide) ?_
    refine ok_ireturn dX5_now_113 rfl rfl ?_
    exact K
theorem sp_X5_now_w {g : GG} {h : Hp} {Post : Option Value → Hp → Prop} (hv : Inv h) {n : Nat} {r : Nat → Int32} (R : RM 50 h n r) {w : Int32} (hw : w.toInt < 0 ∨ 8 < w.toInt) (K : Post (some (.int (-1000000001))) (hfm h 0)) : Sp g mX5_now [.ref 49, .int w] h Post := by
  show Go g mX5_now 0 [_, _] [] _ _ _
  refine ok_iload_n dX5_now_0 rfl rfl ?_
  skip
  · refine ok_tableOut (tgt := 114) dX5_now_1 hw (by decide) ?_
    refine ok_aload_n dX5_now_114 rfl rfl ?_
    refine ok_ldc dX5_now_115 w_849 ?_
    refine ok_callV (M' := mX5_finds) (b' := (0, 0)) (As := [_]) (cx := 5) dX5_now_117 iX5_finds w_850 (by decide) rfl (by first | exact is_lit hv (by decide) rfl | exact is_sq hv hq | exact is_row hv hq | exact is_pn hv hq (by assumption) | assumption) rfl (Nat.le_of_ble_eq_true rfl) ⟨Nat.le_of_ble_eq_true rfl, Nat.le_of_ble_eq_true rfl⟩ (Nat.le_of_ble_eq_true rfl) rfl rfl ?_
    refine sp_X5_finds hv (k := 0) (by decide) (by decide) ?_
    refine ok_ireturn dX5_now_120 rfl rfl ?_
    first | exact K | (simp only [↓reduceIte] at K; exact K)
theorem sp_X5_hours_b {g : GG} {h : Hp} {Post : Option Value → Hp → Prop} (hv : Inv h) {n : Nat} {r : Nat → Int32} (R : RM 50 h n r) (v : Int32) (hb : v < 1 ∨ 200 < v) (K : Post (some (.int (-1000000001))) (hfm h 0)) : Sp g mX5_hours [.ref 49, .int v] h Post := by
  show Go g mX5_hours 0 [_, _, _, _] [] _ _ _
  refine ok_iload_n dX5_hours_0 rfl rfl ?_
  refine ok_iconst (v := 1) dX5_hours_1 (by decide) ?_
  refine ok_sipush (v := 200) dX5_hours_2 (by decide) ?_
  refine ok_callS (M' := mX5_in) (b' := (0, 0)) (As := [_, _, _]) dX5_hours_5 iX5_in w_846 rfl (Nat.le_of_ble_eq_true rfl) ⟨Nat.le_of_ble_eq_true rfl, Nat.le_of_ble_eq_true rfl⟩ (Nat.le_of_ble_eq_true rfl) rfl rfl ?_
  refine sp_X5_in _ _ _ ?_
  rw [wi_bad hb]
  refine ok_if_ne (tgt := 18) dX5_hours_8 (by decide) (fun c9 => absurd c9 (fun c => c rfl)) (fun _ => ?_)
  refine ok_aload_n dX5_hours_11 rfl rfl ?_
  refine ok_ldc dX5_hours_12 w_849 ?_
  refine ok_callV (M' := mX5_finds) (b' := (0, 0)) (As := [_]) (cx := 5) dX5_hours_14 iX5_finds w_850 (by decide) rfl (by first | exact is_lit hv (by decide) rfl | exact is_sq hv hq | exact is_row hv hq | exact is_pn hv hq (by assumption) | assumption) rfl (Nat.le_of_ble_eq_true rfl) ⟨Nat.le_of_ble_eq_true rfl, Nat.le_of_ble_eq_true rfl⟩ (Nat.le_of_ble_eq_true rfl) rfl rfl ?_
  refine sp_X5_finds hv (k := 0) (by decide) (by decide) ?_
  refine ok_ireturn dX5_hours_17 rfl rfl ?_
  first | exact K | (simp only [↓reduceIte] at K; exact K)
theorem sp_X5_hours_s {g : GG} {h : Hp} {Post : Option Value → Hp → Prop} (hv : Inv h) {n : Nat} {r : Nat → Int32} (R : RM 50 h n r) (v : Int32) (h1 : ¬ v < 1) (h2 : ¬ 200 < v) (hs : ¬ r 5 + v ≤ 9999) (K : Post (some (.int (-1000000005))) (hfm h 4)) : Sp g mX5_hours [.ref 49, .int v] h Post := by
  show Go g mX5_hours 0 [_, _, _, _] [] _ _ _
  refine ok_iload_n dX5_hours_0 rfl rfl ?_
  refine ok_iconst (v := 1) dX5_hours_1 (by decide) ?_
  refine ok_sipush (v := 200) dX5_hours_2 (by decide) ?_
  refine ok_callS (M' := mX5_in) (b' := (0, 0)) (As := [_, _, _]) dX5_hours_5 iX5_in w_846 rfl (Nat.le_of_ble_eq_true rfl) ⟨Nat.le_of_ble_eq_true rfl, Nat.le_of_ble_eq_true rfl⟩ (Nat.le_of_ble_eq_true rfl) rfl rfl ?_
  refine sp_X5_in _ _ _ ?_
  rw [wi_ok h1 h2]
  refine ok_if_ne (tgt := 18) dX5_hours_8 (by decide) (fun _ => ?_) (fun c9 => absurd c9 (by decide))
  refine ok_aload_n dX5_hours_18 rfl rfl ?_
  refine ok_getR dX5_hours_19 f_X5_7 (by first | exact is_lit hv (by decide) rfl | exact is_sq hv hq | exact is_row hv hq | exact is_pn hv hq (by assumption) | assumption) rfl (by first | exact rf hv rfl | exact rf_row hv hq | assumption) ?_
  refine ok_iconst (v := 5) dX5_hours_22 (by decide) ?_
  refine ok_iaload dX5_hours_23 (is_lit hv (by decide) rfl) (by unfold vp_in; decide) ?_
  rw [show hI h 50 (Int32.toNatClampNeg 5) = r 5 from R.2.2.1 5 (by decide)]
  refine ok_iload_n dX5_hours_24 rfl rfl ?_
  refine ok_iadd dX5_hours_25 ?_
  refine ok_sipush (v := 9999) dX5_hours_26 (by decide) ?_
  refine ok_icmp_le (tgt := 39) dX5_hours_29 (by decide) (fun c9 => absurd c9 hs) (fun _ => ?_)
  refine ok_aload_n dX5_hours_32 rfl rfl ?_
  refine ok_ldc dX5_hours_33 w_938 ?_
  refine ok_callV (M' := mX5_finds) (b' := (0, 0)) (As := [_]) (cx := 5) dX5_hours_35 iX5_finds w_850 (by decide) rfl (by first | exact is_lit hv (by decide) rfl | exact is_sq hv hq | exact is_row hv hq | exact is_pn hv hq (by assumption) | assumption) rfl (Nat.le_of_ble_eq_true rfl) ⟨Nat.le_of_ble_eq_true rfl, Nat.le_of_ble_eq_true rfl⟩ (Nat.le_of_ble_eq_true rfl) rfl rfl ?_
  refine sp_X5_finds hv (k := 4) (by decide) (by decide) ?_
  refine ok_ireturn dX5_hours_38 rfl rfl ?_
  first | exact K | (simp only [↓reduceIte] at K; exact K)
theorem lp_X5_hours_43 {g : GG} {h0 : Hp} {Post : Option Value → Hp → Prop} (hv0 : Inv h0) {n : Nat} {r : Nat → Int32} (G0 : RG r n) {m : Nat} (hm : m ≤ 200) (K : ∀ h', QM h0 h' → RM 50 h' n (w_hrs r n m) → Post (some (.int (w_fls r n m))) h') : ∀ (k i : Nat) (h : Hp), i + k = m → QM h0 h → RM 50 h n (w_hrs r n i) → Go g mX5_hours 43 [some (.ref 49), some (.int (nI m)), some (.int (w_fls r n i)), some (.int (nI i))] [] h (0, 0) Post := by
  intro k
  induction k with
  | zero =>
    intro i h hik M R
    obtain rfl : i = m := by omega
    refine ok_iload_n dX5_hours_43 rfl rfl ?_
    refine ok_iload_n dX5_hours_44 rfl rfl ?_
    refine ok_icmp_ge (tgt := 61) dX5_hours_45 (by decide) (fun _ => ?_) (fun c9 => absurd (nI_le (Nat.le_refl _) (by omega)) c9)
    refine ok_iload_n dX5_hours_61 rfl rfl ?_
    refine ok_ireturn dX5_hours_62 rfl rfl ?_
    exact K h M R
  | succ k ih =>
    intro i h hik M R
    have hi : i < m := by omega
    have hv := M.inv hv0
    have G := G0.hrs i
    refine ok_iload_n dX5_hours_43 rfl rfl ?_
    refine ok_iload_n dX5_hours_44 rfl rfl ?_
    refine ok_icmp_ge (tgt := 61) dX5_hours_45 (by decide) (fun c9 => absurd c9 (nI_ge hi (by omega))) (fun _ => ?_)
    refine ok_iload_n dX5_hours_48 rfl rfl ?_
    refine ok_aload_n dX5_hours_49 rfl rfl ?_
    refine ok_callV (M' := mX5_anHour) (b' := (0, 0)) (As := []) (cx := 5) dX5_hours_50 iX5_anHour w_939 (by decide) rfl (by first | exact is_lit hv (by decide) rfl | exact is_sq hv hq | exact is_row hv hq | exact is_pn hv hq (by assumption) | assumption) rfl (Nat.le_of_ble_eq_true rfl) ⟨Nat.le_of_ble_eq_true rfl, Nat.le_of_ble_eq_true rfl⟩ (Nat.le_of_ble_eq_true rfl) rfl rfl ?_
    refine sp_X5_anHour hv R G (fun h1 M1 R1 => ?_)
    refine ok_iadd dX5_hours_53 ?_
    refine ok_istore_n (lo' := [_, _, _, _]) dX5_hours_54 rfl (Nat.le_of_ble_eq_true rfl) rfl rfl ?_
    refine ok_iinc (v := _ + 1) (lo' := [_, _, _, _]) dX5_hours_55 rfl rfl (Nat.le_of_ble_eq_true rfl) rfl rfl ?_
    refine ok_goto (tgt := 43) dX5_hours_58 (by decide) ?_
    rw [nI_1]
    exact ih (i + 1) h1 (by omega) (M.tr M1) R1
theorem sp_X5_hours {g : GG} {h : Hp} {Post : Option Value → Hp → Prop} (hv : Inv h) {n : Nat} {r : Nat → Int32} (R : RM 50 h n r) (G : RG r n) {m : Nat} (hm1 : 1 ≤ m) (hm : m ≤ 200) (hs : r 5 + nI m ≤ 9999) (K : ∀ h', QM h h' → RM 50 h' (n) (w_hrs r n m) → Post (some (.int (w_fls r n m))) h') : Sp g mX5_hours [.ref 49, .int (nI m)] h Post := by
  show Go g mX5_hours 0 [_, _, _, _] [] _ _ _
  refine ok_iload_n dX5_hours_0 rfl rfl ?_
  refine ok_iconst (v := 1) dX5_hours_1 (by decide) ?_
  refine ok_sipush (v := 200) dX5_hours_2 (by decide) ?_
  refine ok_callS (M' := mX5_in) (b' := (0, 0)) (As := [_, _, _]) dX5_hours_5 iX5_in w_846 rfl (Nat.le_of_ble_eq_true rfl) ⟨Nat.le_of_ble_eq_true rfl, Nat.le_of_ble_eq_true rfl⟩ (Nat.le_of_ble_eq_true rfl) rfl rfl ?_
  refine sp_X5_in _ _ _ ?_
  rw [wi_ok (v := nI m) (l := 1) (u := 200) (nI_nlt (a := m) (b := 1) hm1 (by omega)) (nI_nlt (a := 200) (b := m) hm (by omega))]
  refine ok_if_ne (tgt := 18) dX5_hours_8 (by decide) (fun _ => ?_) (fun c9 => absurd c9 (by decide))
  refine ok_aload_n dX5_hours_18 rfl rfl ?_
  refine ok_getR dX5_hours_19 f_X5_7 (by first | exact is_lit hv (by decide) rfl | exact is_sq hv hq | exact is_row hv hq | exact is_pn hv hq (by assumption) | assumption) rfl (by first | exact rf hv rfl | exact rf_row hv hq | assumption) ?_
  refine ok_iconst (v := 5) dX5_hours_22 (by decide) ?_
  refine ok_iaload dX5_hours_23 (is_lit hv (by decide) rfl) (by unfold vp_in; decide) ?_
  rw [show hI h 50 (Int32.toNatClampNeg 5) = r 5 from R.2.2.1 5 (by decide)]
  refine ok_iload_n dX5_hours_24 rfl rfl ?_
  refine ok_iadd dX5_hours_25 ?_
  refine ok_sipush (v := 9999) dX5_hours_26 (by decide) ?_
  refine ok_icmp_le (tgt := 39) dX5_hours_29 (by decide) (fun _ => ?_) (fun c9 => absurd hs c9)
  refine ok_iconst (v := 0) dX5_hours_39 (by decide) ?_
  refine ok_istore_n (lo' := [_, _, _, _]) dX5_hours_40 rfl (Nat.le_of_ble_eq_true rfl) rfl rfl ?_
  refine ok_iconst (v := 0) dX5_hours_41 (by decide) ?_
  refine ok_istore_n (lo' := [_, _, _, _]) dX5_hours_42 rfl (Nat.le_of_ble_eq_true rfl) rfl rfl ?_
  exact lp_X5_hours_43 hv G hm K m 0 h (by omega) QM.rf R
