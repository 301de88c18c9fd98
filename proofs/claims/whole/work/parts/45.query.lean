/-! ===== the reference: queries ===== -/
theorem sp_X5_runs {g : GG} {h : Hp} {Post : Option Value → Hp → Prop} (hv : Inv h) {n : Nat} {r : Nat → Int32} (R : RM 50 h n r) (G : RG r n) (K : ∀ h', TM h h' → Post (some (.int (w_will r n (-1) 0))) h') : Sp g mX5_runs [.ref 49] h Post := by
  show Go g mX5_runs 0 [_] [] _ _ _
  refine ok_aload_n dX5_runs_0 rfl rfl ?_
  refine ok_iconst (v := -1) dX5_runs_1 (by decide) ?_
  refine ok_iconst (v := 0) dX5_runs_2 (by decide) ?_
  refine ok_callV (M' := mX5_throwAll) (b' := (0, 0)) (As := [_, _]) (cx := 5) dX5_runs_3 iX5_throwAll w_943 (by decide) rfl (by first | exact is_lit hv (by decide) rfl | exact is_sq hv hq | exact is_row hv hq | exact is_pn hv hq (by assumption) | assumption) rfl (Nat.le_of_ble_eq_true rfl) ⟨Nat.le_of_ble_eq_true rfl, Nat.le_of_ble_eq_true rfl⟩ (Nat.le_of_ble_eq_true rfl) rfl rfl ?_
  refine sp_X5_throwAll hv R G (-1) (0) (fun h1 M1 w1 t1 => ?_)
  have hv := M1.1.inv hv
  have R := M1.rm R
  refine ok_aload_n dX5_runs_6 rfl rfl ?_
  refine ok_getI dX5_runs_7 f_X5_104 (by first | exact is_lit hv (by decide) rfl | exact is_sq hv hq | exact is_row hv hq | exact is_pn hv hq (by assumption) | assumption) rfl ?_
  refine ok_ireturn dX5_runs_10 rfl rfl ?_
  rw [w1]
  exact K h1 M1
theorem sp_X5_all {g : GG} {h : Hp} {Post : Option Value → Hp → Prop} (hv : Inv h) {n : Nat} {r : Nat → Int32} (R : RM 50 h n r) (G : RG r n) (K : ∀ h', TM h h' → Post (some (.int (w_sum (w_gain r n (-1) 0) n))) h') : Sp g mX5_all [.ref 49] h Post := by
  show Go g mX5_all 0 [_] [] _ _ _
  refine ok_aload_n dX5_all_0 rfl rfl ?_
  refine ok_callV (M' := mX5_gainOfAll) (b' := (0, 0)) (As := []) (cx := 5) dX5_all_1 iX5_gainOfAll w_984 (by decide) rfl (by first | exact is_lit hv (by decide) rfl | exact is_sq hv hq | exact is_row hv hq | exact is_pn hv hq (by assumption) | assumption) rfl (Nat.le_of_ble_eq_true rfl) ⟨Nat.le_of_ble_eq_true rfl, Nat.le_of_ble_eq_true rfl⟩ (Nat.le_of_ble_eq_true rfl) rfl rfl ?_
  refine sp_X5_gainOfAll hv R G (fun h1 M1 => ?_)
  refine ok_ireturn dX5_all_4 rfl rfl ?_
  exact K h1 M1
