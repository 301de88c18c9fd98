/-! ===== squares: sums ===== -/
theorem lp_X2_allPurses_4 {g : GG} {h : Hp} {Post : Option Value → Hp → Prop} (hv : Inv h) {q : Nat} (hq : Sqr q) {n : Nat} (hn : n ≤ 10) (h6 : hI h q 6 = nI n) (K : Post (some (.int (w_sum (fun p => pf h q p 1) n))) h) : ∀ (k i : Nat), i + k = n → Go g mX2_allPurses 4 [some (.ref q), some (.int (w_sum (fun p => pf h q p 1) i)), some (.int (nI i))] [] h (0, 0) Post := by
  intro k
  induction k with
  | zero =>
    intro i  hik 
    obtain rfl : i = n := by omega
    refine ok_iload_n dX2_allPurses_4 rfl rfl ?_
    refine ok_aload_n dX2_allPurses_5 rfl rfl ?_
    refine ok_getI dX2_allPurses_6 f_X2_31 (by first | exact is_lit hv (by decide) rfl | exact is_sq hv hq | exact is_row hv hq | exact is_pn hv hq (by assumption) | assumption) rfl ?_
    rw [h6]
    refine ok_icmp_ge (tgt := 30) dX2_allPurses_9 (by decide) (fun _ => ?_) (fun c9 => absurd (nI_le (Nat.le_refl _) (by omega)) c9)
    refine ok_iload_n dX2_allPurses_30 rfl rfl ?_
    refine ok_ireturn dX2_allPurses_31 rfl rfl ?_
    first | exact K | (simp only [↓reduceIte] at K; exact K)
  | succ k ih =>
    intro i  hik 
    have hi : i < n := by omega
    have hi10 : i < 10 := by omega
    refine ok_iload_n dX2_allPurses_4 rfl rfl ?_
    refine ok_aload_n dX2_allPurses_5 rfl rfl ?_
    refine ok_getI dX2_allPurses_6 f_X2_31 (by first | exact is_lit hv (by decide) rfl | exact is_sq hv hq | exact is_row hv hq | exact is_pn hv hq (by assumption) | assumption) rfl ?_
    rw [h6]
    refine ok_icmp_ge (tgt := 30) dX2_allPurses_9 (by decide) (fun c9 => absurd c9 (nI_ge hi (by omega))) (fun _ => ?_)
    refine ok_iload_n dX2_allPurses_12 rfl rfl ?_
    refine ok_aload_n dX2_allPurses_13 rfl rfl ?_
    refine ok_getR dX2_allPurses_14 f_X2_36 (by first | exact is_lit hv (by decide) rfl | exact is_sq hv hq | exact is_row hv hq | exact is_pn hv hq (by assumption) | assumption) rfl (by first | exact rf hv rfl | exact rf_row hv hq | assumption) ?_
    refine ok_iload_n dX2_allPurses_17 rfl rfl ?_
    refine ok_aaloadP dX2_allPurses_18 (by first | exact is_lit hv (by decide) rfl | exact is_sq hv hq | exact is_row hv hq | exact is_pn hv hq (by assumption) | assumption) (by first | decide | exact vp_in_nI (by assumption) (by decide) | exact vp_in_nI (by omega) (by decide) | assumption) (by first | exact rf_nI hv hq (by assumption) | assumption) ?_
    refine ok_getI dX2_allPurses_19 f_X2_75 (by first | exact is_lit hv (by decide) rfl | exact is_sq hv hq | exact is_row hv hq | exact is_pn hv hq (by assumption) | assumption) rfl ?_
    refine ok_iadd dX2_allPurses_22 ?_
    refine ok_istore_n (lo' := [_, _, _]) dX2_allPurses_23 rfl (Nat.le_of_ble_eq_true rfl) rfl rfl ?_
    refine ok_iinc (v := _ + 1) (lo' := [_, _, _]) dX2_allPurses_24 rfl rfl (Nat.le_of_ble_eq_true rfl) rfl rfl ?_
    refine ok_goto (tgt := 4) dX2_allPurses_27 (by decide) ?_
    rw [nI_1]
    exact ih (i + 1) (by omega)
theorem sp_X2_allPurses {g : GG} {h : Hp} {Post : Option Value → Hp → Prop} (hv : Inv h) {q : Nat} (hq : Sqr q) {n : Nat} (hn : n ≤ 10) (h6 : hI h q 6 = nI n) (K : Post (some (.int (w_sum (fun p => pf h q p 1) n))) h) : Sp g mX2_allPurses [.ref q] h Post := by
  show Go g mX2_allPurses 0 [_, _, _] [] _ _ _
  refine ok_iconst (v := 0) dX2_allPurses_0 (by decide) ?_
  refine ok_istore_n (lo' := [_, _, _]) dX2_allPurses_1 rfl (Nat.le_of_ble_eq_true rfl) rfl rfl ?_
  refine ok_iconst (v := 0) dX2_allPurses_2 (by decide) ?_
  refine ok_istore_n (lo' := [_, _, _]) dX2_allPurses_3 rfl (Nat.le_of_ble_eq_true rfl) rfl rfl ?_
  exact lp_X2_allPurses_4 hv hq hn h6 K n 0 (by omega)
theorem lp_X2_allPails_4 {g : GG} {h : Hp} {Post : Option Value → Hp → Prop} (hv : Inv h) {q : Nat} (hq : Sqr q) {n : Nat} (hn : n ≤ 10) (h6 : hI h q 6 = nI n) (K : Post (some (.int (w_sum (fun p => pf h q p 5) n))) h) : ∀ (k i : Nat), i + k = n → Go g mX2_allPails 4 [some (.ref q), some (.int (w_sum (fun p => pf h q p 5) i)), some (.int (nI i))] [] h (0, 0) Post := by
  intro k
  induction k with
  | zero =>
    intro i  hik 
    obtain rfl : i = n := by omega
    refine ok_iload_n dX2_allPails_4 rfl rfl ?_
    refine ok_aload_n dX2_allPails_5 rfl rfl ?_
    refine ok_getI dX2_allPails_6 f_X2_31 (by first | exact is_lit hv (by decide) rfl | exact is_sq hv hq | exact is_row hv hq | exact is_pn hv hq (by assumption) | assumption) rfl ?_
    rw [h6]
    refine ok_icmp_ge (tgt := 30) dX2_allPails_9 (by decide) (fun _ => ?_) (fun c9 => absurd (nI_le (Nat.le_refl _) (by omega)) c9)
    refine ok_iload_n dX2_allPails_30 rfl rfl ?_
    refine ok_ireturn dX2_allPails_31 rfl rfl ?_
    first | exact K | (simp only [↓reduceIte] at K; exact K)
  | succ k ih =>
    intro i  hik 
    have hi : i < n := by omega
    have hi10 : i < 10 := by omega
    refine ok_iload_n dX2_allPails_4 rfl rfl ?_
    refine ok_aload_n dX2_allPails_5 rfl rfl ?_
    refine ok_getI dX2_allPails_6 f_X2_31 (by first | exact is_lit hv (by decide) rfl | exact is_sq hv hq | exact is_row hv hq | exact is_pn hv hq (by assumption) | assumption) rfl ?_
    rw [h6]
    refine ok_icmp_ge (tgt := 30) dX2_allPails_9 (by decide) (fun c9 => absurd c9 (nI_ge hi (by omega))) (fun _ => ?_)
    refine ok_iload_n dX2_allPails_12 rfl rfl ?_
    refine ok_aload_n dX2_allPails_13 rfl rfl ?_
    refine ok_getR dX2_allPails_14 f_X2_36 (by first | exact is_lit hv (by decide) rfl | exact is_sq hv hq | exact is_row hv hq | exact is_pn hv hq (by assumption) | assumption) rfl (by first | exact rf hv rfl | exact rf_row hv hq | assumption) ?_
    refine ok_iload_n dX2_allPails_17 rfl rfl ?_
    refine ok_aaloadP dX2_allPails_18 (by first | exact is_lit hv (by decide) rfl | exact is_sq hv hq | exact is_row hv hq | exact is_pn hv hq (by assumption) | assumption) (by first | decide | exact vp_in_nI (by assumption) (by decide) | exact vp_in_nI (by omega) (by decide) | assumption) (by first | exact rf_nI hv hq (by assumption) | assumption) ?_
    refine ok_getI dX2_allPails_19 f_X2_99 (by first | exact is_lit hv (by decide) rfl | exact is_sq hv hq | exact is_row hv hq | exact is_pn hv hq (by assumption) | assumption) rfl ?_
    refine ok_iadd dX2_allPails_22 ?_
    refine ok_istore_n (lo' := [_, _, _]) dX2_allPails_23 rfl (Nat.le_of_ble_eq_true rfl) rfl rfl ?_
    refine ok_iinc (v := _ + 1) (lo' := [_, _, _]) dX2_allPails_24 rfl rfl (Nat.le_of_ble_eq_true rfl) rfl rfl ?_
    refine ok_goto (tgt := 4) dX2_allPails_27 (by decide) ?_
    rw [nI_1]
    exact ih (i + 1) (by omega)
theorem sp_X2_allPails {g : GG} {h : Hp} {Post : Option Value → Hp → Prop} (hv : Inv h) {q : Nat} (hq : Sqr q) {n : Nat} (hn : n ≤ 10) (h6 : hI h q 6 = nI n) (K : Post (some (.int (w_sum (fun p => pf h q p 5) n))) h) : Sp g mX2_allPails [.ref q] h Post := by
  show Go g mX2_allPails 0 [_, _, _] [] _ _ _
  refine ok_iconst (v := 0) dX2_allPails_0 (by decide) ?_
  refine ok_istore_n (lo' := [_, _, _]) dX2_allPails_1 rfl (Nat.le_of_ble_eq_true rfl) rfl rfl ?_
  refine ok_iconst (v := 0) dX2_allPails_2 (by decide) ?_
  refine ok_istore_n (lo' := [_, _, _]) dX2_allPails_3 rfl (Nat.le_of_ble_eq_true rfl) rfl rfl ?_
  exact lp_X2_allPails_4 hv hq hn h6 K n 0 (by omega)
theorem lp_X2_allDry_4 {g : GG} {h : Hp} {Post : Option Value → Hp → Prop} (hv : Inv h) {q : Nat} (hq : Sqr q) {n : Nat} (hn : n ≤ 10) (h6 : hI h q 6 = nI n) (K : Post (some (.int (w_sum (fun p => pf h q p 6) n))) h) : ∀ (k i : Nat), i + k = n → Go g mX2_allDry 4 [some (.ref q), some (.int (w_sum (fun p => pf h q p 6) i)), some (.int (nI i))] [] h (0, 0) Post := by
  intro k
  induction k with
  | zero =>
    intro i  hik 
    obtain rfl : i = n := by omega
    refine ok_iload_n dX2_allDry_4 rfl rfl ?_
    refine ok_aload_n dX2_allDry_5 rfl rfl ?_
    refine ok_getI dX2_allDry_6 f_X2_31 (by first | exact is_lit hv (by decide) rfl | exact is_sq hv hq | exact is_row hv hq | exact is_pn hv hq (by assumption) | assumption) rfl ?_
    rw [h6]
    refine ok_icmp_ge (tgt := 30) dX2_allDry_9 (by decide) (fun _ => ?_) (fun c9 => absurd (nI_le (Nat.le_refl _) (by omega)) c9)
    refine ok_iload_n dX2_allDry_30 rfl rfl ?_
    refine ok_ireturn dX2_allDry_31 rfl rfl ?_
    first | exact K | (simp only [↓reduceIte] at K; exact K)
  | succ k ih =>
    intro i  hik 
    have hi : i < n := by omega
    have hi10 : i < 10 := by omega
    refine ok_iload_n dX2_allDry_4 rfl rfl ?_
    refine ok_aload_n dX2_allDry_5 rfl rfl ?_
    refine ok_getI dX2_allDry_6 f_X2_31 (by first | exact is_lit hv (by decide) rfl | exact is_sq hv hq | exact is_row hv hq | exact is_pn hv hq (by assumption) | assumption) rfl ?_
    rw [h6]
    refine ok_icmp_ge (tgt := 30) dX2_allDry_9 (by decide) (fun c9 => absurd c9 (nI_ge hi (by omega))) (fun _ => ?_)
    refine ok_iload_n dX2_allDry_12 rfl rfl ?_
    refine ok_aload_n dX2_allDry_13 rfl rfl ?_
    refine ok_getR dX2_allDry_14 f_X2_36 (by first | exact is_lit hv (by decide) rfl | exact is_sq hv hq | exact is_row hv hq | exact is_pn hv hq (by assumption) | assumption) rfl (by first | exact rf hv rfl | exact rf_row hv hq | assumption) ?_
    refine ok_iload_n dX2_allDry_17 rfl rfl ?_
    refine ok_aaloadP dX2_allDry_18 (by first | exact is_lit hv (by decide) rfl | exact is_sq hv hq | exact is_row hv hq | exact is_pn hv hq (by assumption) | assumption) (by first | decide | exact vp_in_nI (by assumption) (by decide) | exact vp_in_nI (by omega) (by decide) | assumption) (by first | exact rf_nI hv hq (by assumption) | assumption) ?_
    refine ok_getI dX2_allDry_19 f_X2_102 (by first | exact is_lit hv (by decide) rfl | exact is_sq hv hq | exact is_row hv hq | exact is_pn hv hq (by assumption) | assumption) rfl ?_
    refine ok_iadd dX2_allDry_22 ?_
    refine ok_istore_n (lo' := [_, _, _]) dX2_allDry_23 rfl (Nat.le_of_ble_eq_true rfl) rfl rfl ?_
    refine ok_iinc (v := _ + 1) (lo' := [_, _, _]) dX2_allDry_24 rfl rfl (Nat.le_of_ble_eq_true rfl) rfl rfl ?_
    refine ok_goto (tgt := 4) dX2_allDry_27 (by decide) ?_
    rw [nI_1]
    exact ih (i + 1) (by omega)
theorem sp_X2_allDry {g : GG} {h : Hp} {Post : Option Value → Hp → Prop} (hv : Inv h) {q : Nat} (hq : Sqr q) {n : Nat} (hn : n ≤ 10) (h6 : hI h q 6 = nI n) (K : Post (some (.int (w_sum (fun p => pf h q p 6) n))) h) : Sp g mX2_allDry [.ref q] h Post := by
  show Go g mX2_allDry 0 [_, _, _] [] _ _ _
  refine ok_iconst (v := 0) dX2_allDry_0 (by decide) ?_
  refine ok_istore_n (lo' := [_, _, _]) dX2_allDry_1 rfl (Nat.le_of_ble_eq_true rfl) rfl rfl ?_
  refine ok_iconst (v := 0) dX2_allDry_2 (by decide) ?_
  refine ok_istore_n (lo' := [_, _, _]) dX2_allDry_3 rfl (Nat.le_of_ble_eq_true rfl) rfl rfl ?_
  exact lp_X2_allDry_4 hv hq hn h6 K n 0 (by omega)
theorem lp_X2_allValues_4 {g : GG} {h : Hp} {Post : Option Value → Hp → Prop} (hv : Inv h) {q : Nat} (hq : Sqr q) {n : Nat} (hn : n ≤ 10) (h6 : hI h q 6 = nI n) (K : Post (some (.int (w_sum (fun p => pf h q p 2) n))) h) : ∀ (k i : Nat), i + k = n → Go g mX2_allValues 4 [some (.ref q), some (.int (w_sum (fun p => pf h q p 2) i)), some (.int (nI i))] [] h (0, 0) Post := by
  intro k
  induction k with
  | zero =>
    intro i  hik 
    obtain rfl : i = n := by omega
    refine ok_iload_n dX2_allValues_4 rfl rfl ?_
    refine ok_aload_n dX2_allValues_5 rfl rfl ?_
    refine ok_getI dX2_allValues_6 f_X2_31 (by first | exact is_lit hv (by decide) rfl | exact is_sq hv hq | exact is_row hv hq | exact is_pn hv hq (by assumption) | assumption) rfl ?_
    rw [h6]
    refine ok_icmp_ge (tgt := 30) dX2_allValues_9 (by decide) (fun _ => ?_) (fun c9 => absurd (nI_le (Nat.le_refl _) (by omega)) c9)
    refine ok_iload_n dX2_allValues_30 rfl rfl ?_
    refine ok_ireturn dX2_allValues_31 rfl rfl ?_
    first | exact K | (simp only [↓reduceIte] at K; exact K)
  | succ k ih =>
    intro i  hik 
    have hi : i < n := by omega
    have hi10 : i < 10 := by omega
    refine ok_iload_n dX2_allValues_4 rfl rfl ?_
    refine ok_aload_n dX2_allValues_5 rfl rfl ?_
    refine ok_getI dX2_allValues_6 f_X2_31 (by first | exact is_lit hv (by decide) rfl | exact is_sq hv hq | exact is_row hv hq | exact is_pn hv hq (by assumption) | assumption) rfl ?_
    rw [h6]
    refine ok_icmp_ge (tgt := 30) dX2_allValues_9 (by decide) (fun c9 => absurd c9 (nI_ge hi (by omega))) (fun _ => ?_)
    refine ok_iload_n dX2_allValues_12 rfl rfl ?_
    refine ok_aload_n dX2_allValues_13 rfl rfl ?_
    refine ok_getR dX2_allValues_14 f_X2_36 (by first | exact is_lit hv (by decide) rfl | exact is_sq hv hq | exact is_row hv hq | exact is_pn hv hq (by assumption) | assumption) rfl (by first | exact rf hv rfl | exact rf_row hv hq | assumption) ?_
    refine ok_iload_n dX2_allValues_17 rfl rfl ?_
    refine ok_aaloadP dX2_allValues_18 (by first | exact is_lit hv (by decide) rfl | exact is_sq hv hq | exact is_row hv hq | exact is_pn hv hq (by assumption) | assumption) (by first | decide | exact vp_in_nI (by assumption) (by decide) | exact vp_in_nI (by omega) (by decide) | assumption) (by first | exact rf_nI hv hq (by assumption) | assumption) ?_
    refine ok_getI dX2_allValues_19 f_X2_72 (by first | exact is_lit hv (by decide) rfl | exact is_sq hv hq | exact is_row hv hq | exact is_pn hv hq (by assumption) | assumption) rfl ?_
    refine ok_iadd dX2_allValues_22 ?_
    refine ok_istore_n (lo' := [_, _, _]) dX2_allValues_23 rfl (Nat.le_of_ble_eq_true rfl) rfl rfl ?_
    refine ok_iinc (v := _ + 1) (lo' := [_, _, _]) dX2_allValues_24 rfl rfl (Nat.le_of_ble_eq_true rfl) rfl rfl ?_
    refine ok_goto (tgt := 4) dX2_allValues_27 (by decide) ?_
    rw [nI_1]
    exact ih (i + 1) (by omega)
theorem sp_X2_allValues {g : GG} {h : Hp} {Post : Option Value → Hp → Prop} (hv : Inv h) {q : Nat} (hq : Sqr q) {n : Nat} (hn : n ≤ 10) (h6 : hI h q 6 = nI n) (K : Post (some (.int (w_sum (fun p => pf h q p 2) n))) h) : Sp g mX2_allValues [.ref q] h Post := by
  show Go g mX2_allValues 0 [_, _, _] [] _ _ _
  refine ok_iconst (v := 0) dX2_allValues_0 (by decide) ?_
  refine ok_istore_n (lo' := [_, _, _]) dX2_allValues_1 rfl (Nat.le_of_ble_eq_true rfl) rfl rfl ?_
  refine ok_iconst (v := 0) dX2_allValues_2 (by decide) ?_
  refine ok_istore_n (lo' := [_, _, _]) dX2_allValues_3 rfl (Nat.le_of_ble_eq_true rfl) rfl rfl ?_
  exact lp_X2_allValues_4 hv hq hn h6 K n 0 (by omega)
theorem lp_X2_allThrew_4 {g : GG} {h : Hp} {Post : Option Value → Hp → Prop} (hv : Inv h) {q : Nat} (hq : Sqr q) {n : Nat} (hn : n ≤ 10) (h6 : hI h q 6 = nI n) (K : Post (some (.int (w_sum (fun p => pf h q p 4) n))) h) : ∀ (k i : Nat), i + k = n → Go g mX2_allThrew 4 [some (.ref q), some (.int (w_sum (fun p => pf h q p 4) i)), some (.int (nI i))] [] h (0, 0) Post := by
  intro k
  induction k with
  | zero =>
    intro i  hik 
    obtain rfl : i = n := by omega
    refine ok_iload_n dX2_allThrew_4 rfl rfl ?_
    refine ok_aload_n dX2_allThrew_5 rfl rfl ?_
    refine ok_getI dX2_allThrew_6 f_X2_31 (by first | exact is_lit hv (by decide) rfl | exact is_sq hv hq | exact is_row hv hq | exact is_pn hv hq (by assumption) | assumption) rfl ?_
    rw [h6]
    refine ok_icmp_ge (tgt := 30) dX2_allThrew_9 (by decide) (fun _ => ?_) (fun c9 => absurd (nI_le (Nat.le_refl _) (by omega)) c9)
    refine ok_iload_n dX2_allThrew_30 rfl rfl ?_
    refine ok_ireturn dX2_allThrew_31 rfl rfl ?_
    first | exact K | (simp only [↓reduceIte] at K; exact K)
  | succ k ih =>
    intro i  hik 
    have hi : i < n := by omega
    have hi10 : i < 10 := by omega
    refine ok_iload_n dX2_allThrew_4 rfl rfl ?_
    refine ok_aload_n dX2_allThrew_5 rfl rfl ?_
    refine ok_getI dX2_allThrew_6 f_X2_31 (by first | exact is_lit hv (by decide) rfl | exact is_sq hv hq | exact is_row hv hq | exact is_pn hv hq (by assumption) | assumption) rfl ?_
    rw [h6]
    refine ok_icmp_ge (tgt := 30) dX2_allThrew_9 (by decide) (fun c9 => absurd c9 (nI_ge hi (by omega))) (fun _ => ?_)
    refine ok_iload_n dX2_allThrew_12 rfl rfl ?_
    refine ok_aload_n dX2_allThrew_13 rfl rfl ?_
    refine ok_getR dX2_allThrew_14 f_X2_36 (by first | exact is_lit hv (by decide) rfl | exact is_sq hv hq | exact is_row hv hq | exact is_pn hv hq (by assumption) | assumption) rfl (by first | exact rf hv rfl | exact rf_row hv hq | assumption) ?_
    refine ok_iload_n dX2_allThrew_17 rfl rfl ?_
    refine ok_aaloadP dX2_allThrew_18 (by first | exact is_lit hv (by decide) rfl | exact is_sq hv hq | exact is_row hv hq | exact is_pn hv hq (by assumption) | assumption) (by first | decide | exact vp_in_nI (by assumption) (by decide) | exact vp_in_nI (by omega) (by decide) | assumption) (by first | exact rf_nI hv hq (by assumption) | assumption) ?_
    refine ok_getI dX2_allThrew_19 f_X2_95 (by first | exact is_lit hv (by decide) rfl | exact is_sq hv hq | exact is_row hv hq | exact is_pn hv hq (by assumption) | assumption) rfl ?_
    refine ok_iadd dX2_allThrew_22 ?_
    refine ok_istore_n (lo' := [_, _, _]) dX2_allThrew_23 rfl (Nat.le_of_ble_eq_true rfl) rfl rfl ?_
    refine ok_iinc (v := _ + 1) (lo' := [_, _, _]) dX2_allThrew_24 rfl rfl (Nat.le_of_ble_eq_true rfl) rfl rfl ?_
    refine ok_goto (tgt := 4) dX2_allThrew_27 (by decide) ?_
    rw [nI_1]
    exact ih (i + 1) (by omega)
theorem sp_X2_allThrew {g : GG} {h : Hp} {Post : Option Value → Hp → Prop} (hv : Inv h) {q : Nat} (hq : Sqr q) {n : Nat} (hn : n ≤ 10) (h6 : hI h q 6 = nI n) (K : Post (some (.int (w_sum (fun p => pf h q p 4) n))) h) : Sp g mX2_allThrew [.ref q] h Post := by
  show Go g mX2_allThrew 0 [_, _, _] [] _ _ _
  refine ok_iconst (v := 0) dX2_allThrew_0 (by decide) ?_
  refine ok_istore_n (lo' := [_, _, _]) dX2_allThrew_1 rfl (Nat.le_of_ble_eq_true rfl) rfl rfl ?_
  refine ok_iconst (v := 0) dX2_allThrew_2 (by decide) ?_
  refine ok_istore_n (lo' := [_, _, _]) dX2_allThrew_3 rfl (Nat.le_of_ble_eq_true rfl) rfl rfl ?_
  exact lp_X2_allThrew_4 hv hq hn h6 K n 0 (by omega)
theorem lp_X2_allPaid_4 {g : GG} {h : Hp} {Post : Option Value → Hp → Prop} (hv : Inv h) {q : Nat} (hq : Sqr q) {n : Nat} (hn : n ≤ 10) (h6 : hI h q 6 = nI n) (K : Post (some (.int (w_sum (fun p => if 0 < pf h q p 4 then pf h q p 4 else 0) n))) h) : ∀ (k i : Nat), i + k = n → Go g mX2_allPaid 4 [some (.ref q), some (.int (w_sum (fun p => if 0 < pf h q p 4 then pf h q p 4 else 0) i)), some (.int (nI i))] [] h (0, 0) Post := by
  intro k
  induction k with
  | zero =>
    intro i  hik 
    obtain rfl : i = n := by omega
    refine ok_iload_n dX2_allPaid_4 rfl rfl ?_
    refine ok_aload_n dX2_allPaid_5 rfl rfl ?_
    refine ok_getI dX2_allPaid_6 f_X2_31 (by first | exact is_lit hv (by decide) rfl | exact is_sq hv hq | exact is_row hv hq | exact is_pn hv hq (by assumption) | assumption) rfl ?_
    rw [h6]
    refine ok_icmp_ge (tgt := 34) dX2_allPaid_9 (by decide) (fun _ => ?_) (fun c9 => absurd (nI_le (Nat.le_refl _) (by omega)) c9)
    refine ok_iload_n dX2_allPaid_34 rfl rfl ?_
    refine ok_ireturn dX2_allPaid_35 rfl rfl ?_
    first | exact K | (simp only [↓reduceIte] at K; exact K)
  | succ k ih =>
    intro i  hik 
    have hi : i < n := by omega
    have hi10 : i < 10 := by omega
    refine ok_iload_n dX2_allPaid_4 rfl rfl ?_
    refine ok_aload_n dX2_allPaid_5 rfl rfl ?_
    refine ok_getI dX2_allPaid_6 f_X2_31 (by first | exact is_lit hv (by decide) rfl | exact is_sq hv hq | exact is_row hv hq | exact is_pn hv hq (by assumption) | assumption) rfl ?_
    rw [h6]
    refine ok_icmp_ge (tgt := 34) dX2_allPaid_9 (by decide) (fun c9 => absurd c9 (nI_ge hi (by omega))) (fun _ => ?_)
    refine ok_iload_n dX2_allPaid_12 rfl rfl ?_
    refine ok_iconst (v := 0) dX2_allPaid_13 (by decide) ?_
    refine ok_aload_n dX2_allPaid_14 rfl rfl ?_
    refine ok_getR dX2_allPaid_15 f_X2_36 (by first | exact is_lit hv (by decide) rfl | exact is_sq hv hq | exact is_row hv hq | exact is_pn hv hq (by assumption) | assumption) rfl (by first | exact rf hv rfl | exact rf_row hv hq | assumption) ?_
    refine ok_iload_n dX2_allPaid_18 rfl rfl ?_
    refine ok_aaloadP dX2_allPaid_19 (by first | exact is_lit hv (by decide) rfl | exact is_sq hv hq | exact is_row hv hq | exact is_pn hv hq (by assumption) | assumption) (by first | decide | exact vp_in_nI (by assumption) (by decide) | exact vp_in_nI (by omega) (by decide) | assumption) (by first | exact rf_nI hv hq (by assumption) | assumption) ?_
    refine ok_getI dX2_allPaid_20 f_X2_95 (by first | exact is_lit hv (by decide) rfl | exact is_sq hv hq | exact is_row hv hq | exact is_pn hv hq (by assumption) | assumption) rfl ?_
    refine ok_max dX2_allPaid_23 w_284 w_285 w_71 w_286 (Nat.le_of_ble_eq_true rfl) (Nat.le_of_ble_eq_true rfl) ?_
    refine ok_iadd dX2_allPaid_26 ?_
    refine ok_istore_n (lo' := [_, _, _]) dX2_allPaid_27 rfl (Nat.le_of_ble_eq_true rfl) rfl rfl ?_
    refine ok_iinc (v := _ + 1) (lo' := [_, _, _]) dX2_allPaid_28 rfl rfl (Nat.le_of_ble_eq_true rfl) rfl rfl ?_
    refine ok_goto (tgt := 4) dX2_allPaid_31 (by decide) ?_
    rw [nI_1]
    exact ih (i + 1) (by omega)
theorem sp_X2_allPaid {g : GG} {h : Hp} {Post : Option Value → Hp → Prop} (hv : Inv h) {q : Nat} (hq : Sqr q) {n : Nat} (hn : n ≤ 10) (h6 : hI h q 6 = nI n) (K : Post (some (.int (w_sum (fun p => if 0 < pf h q p 4 then pf h q p 4 else 0) n))) h) : Sp g mX2_allPaid [.ref q] h Post := by
  show Go g mX2_allPaid 0 [_, _, _] [] _ _ _
  refine ok_iconst (v := 0) dX2_allPaid_0 (by decide) ?_
  refine ok_istore_n (lo' := [_, _, _]) dX2_allPaid_1 rfl (Nat.le_of_ble_eq_true rfl) rfl rfl ?_
  refine ok_iconst (v := 0) dX2_allPaid_2 (by decide) ?_
  refine ok_istore_n (lo' := [_, _, _]) dX2_allPaid_3 rfl (Nat.le_of_ble_eq_true rfl) rfl rfl ?_
  exact lp_X2_allPaid_4 hv hq hn h6 K n 0 (by omega)
theorem sp_X2_gainAt {g : GG} {h : Hp} {Post : Option Value → Hp → Prop} (hv : Inv h) {q : Nat} (hq : Sqr q) {j : Nat} (hj : j < 10) (K : Post (some (.int ((if hI h q 5 ≤ nI j then 0 else pf h q j 2) - pf h q j 4))) h) : Sp g mX2_gainAt [.ref q, .int (nI j)] h Post := by
  show Go g mX2_gainAt 0 [_, _] [] _ _ _
  refine ok_aload_n dX2_gainAt_0 rfl rfl ?_
  refine ok_getR dX2_gainAt_1 f_X2_36 (by first | exact is_lit hv (by decide) rfl | exact is_sq hv hq | exact is_row hv hq | exact is_pn hv hq (by assumption) | assumption) rfl (by first | exact rf hv rfl | exact rf_row hv hq | assumption) ?_
  refine ok_iload_n dX2_gainAt_4 rfl rfl ?_
  refine ok_aaloadP dX2_gainAt_5 (by first | exact is_lit hv (by decide) rfl | exact is_sq hv hq | exact is_row hv hq | exact is_pn hv hq (by assumption) | assumption) (by first | decide | exact vp_in_nI (by assumption) (by decide) | exact vp_in_nI (by omega) (by decide) | assumption) (by first | exact rf_nI hv hq (by assumption) | assumption) ?_
  refine ok_iload_n dX2_gainAt_6 rfl rfl ?_
  refine ok_aload_n dX2_gainAt_7 rfl rfl ?_
  refine ok_getI dX2_gainAt_8 f_X2_28 (by first | exact is_lit hv (by decide) rfl | exact is_sq hv hq | exact is_row hv hq | exact is_pn hv hq (by assumption) | assumption) rfl ?_
  refine ok_icmp_ge (tgt := 18) dX2_gainAt_11 (by decide) (fun c_11 => ?_) (fun c_11 => ?_)
  · refine ok_iconst (v := 0) dX2_gainAt_18 (by decide) ?_
    refine ok_aload_n dX2_gainAt_19 rfl rfl ?_
    refine ok_getR dX2_gainAt_20 f_X2_36 (by first | exact is_lit hv (by decide) rfl | exact is_sq hv hq | exact is_row hv hq | exact is_pn hv hq (by assumption) | assumption) rfl (by first | exact rf hv rfl | exact rf_row hv hq | assumption) ?_
    refine ok_iload_n dX2_gainAt_23 rfl rfl ?_
    refine ok_aaloadP dX2_gainAt_24 (by first | exact is_lit hv (by decide) rfl | exact is_sq hv hq | exact is_row hv hq | exact is_pn hv hq (by assumption) | assumption) (by first | decide | exact vp_in_nI (by assumption) (by decide) | exact vp_in_nI (by omega) (by decide) | assumption) (by first | exact rf_nI hv hq (by assumption) | assumption) ?_
    refine ok_getI dX2_gainAt_25 f_X2_95 (by first | exact is_lit hv (by decide) rfl | exact is_sq hv hq | exact is_row hv hq | exact is_pn hv hq (by assumption) | assumption) rfl ?_
    refine ok_callV (M' := mX0_gainBy) (b' := (0, 0)) (As := [_, _]) (cx := 0) dX2_gainAt_28 iX0_gainBy w_429 (by decide) rfl (by first | exact is_lit hv (by decide) rfl | exact is_sq hv hq | exact is_row hv hq | exact is_pn hv hq (by assumption) | assumption) rfl (Nat.le_of_ble_eq_true rfl) ⟨Nat.le_of_ble_eq_true rfl, Nat.le_of_ble_eq_true rfl⟩ (Nat.le_of_ble_eq_true rfl) rfl rfl ?_
    refine sp_X0_gainBy (is_pn hv hq hj) _ _ ?_
    refine ok_ireturn dX2_gainAt_31 rfl rfl ?_
    simp only [c_11, ↓reduceIte] at K
    first | exact K | (rw [if_neg (by decide)]; exact K) | (rw [if_pos rfl]; exact K)
  · refine ok_iconst (v := 1) dX2_gainAt_14 (by decide) ?_
    refine ok_goto (tgt := 19) dX2_gainAt_15 (by decide) ?_
    refine ok_aload_n dX2_gainAt_19 rfl rfl ?_
    refine ok_getR dX2_gainAt_20 f_X2_36 (by first | exact is_lit hv (by decide) rfl | exact is_sq hv hq | exact is_row hv hq | exact is_pn hv hq (by assumption) | assumption) rfl (by first | exact rf hv rfl | exact rf_row hv hq | assumption) ?_
    refine ok_iload_n dX2_gainAt_23 rfl rfl ?_
    refine ok_aaloadP dX2_gainAt_24 (by first | exact is_lit hv (by decide) rfl | exact is_sq hv hq | exact is_row hv hq | exact is_pn hv hq (by assumption) | assumption) (by first | decide | exact vp_in_nI (by assumption) (by decide) | exact vp_in_nI (by omega) (by decide) | assumption) (by first | exact rf_nI hv hq (by assumption) | assumption) ?_
    refine ok_getI dX2_gainAt_25 f_X2_95 (by first | exact is_lit hv (by decide) rfl | exact is_sq hv hq | exact is_row hv hq | exact is_pn hv hq (by assumption) | assumption) rfl ?_
    refine ok_callV (M' := mX0_gainBy) (b' := (0, 0)) (As := [_, _]) (cx := 0) dX2_gainAt_28 iX0_gainBy w_429 (by decide) rfl (by first | exact is_lit hv (by decide) rfl | exact is_sq hv hq | exact is_row hv hq | exact is_pn hv hq (by assumption) | assumption) rfl (Nat.le_of_ble_eq_true rfl) ⟨Nat.le_of_ble_eq_true rfl, Nat.le_of_ble_eq_true rfl⟩ (Nat.le_of_ble_eq_true rfl) rfl rfl ?_
    refine sp_X0_gainBy (is_pn hv hq hj) _ _ ?_
    refine ok_ireturn dX2_gainAt_31 rfl rfl ?_
    simp only [c_11, ↓reduceIte] at K
    first | exact K | (rw [if_neg (by decide)]; exact K) | (rw [if_pos rfl]; exact K)
theorem lp_X2_allGains_4 {g : GG} {h : Hp} {Post : Option Value → Hp → Prop} (hv : Inv h) {q : Nat} (hq : Sqr q) {n : Nat} (hn : n ≤ 10) (h6 : hI h q 6 = nI n) (K : Post (some (.int (w_sum (fun p => (if hI h q 5 ≤ nI p then 0 else pf h q p 2) - pf h q p 4) n))) h) : ∀ (k i : Nat), i + k = n → Go g mX2_allGains 4 [some (.ref q), some (.int (w_sum (fun p => (if hI h q 5 ≤ nI p then 0 else pf h q p 2) - pf h q p 4) i)), some (.int (nI i))] [] h (0, 0) Post := by
  intro k
  induction k with
  | zero =>
    intro i  hik 
    obtain rfl : i = n := by omega
    refine ok_iload_n dX2_allGains_4 rfl rfl ?_
    refine ok_aload_n dX2_allGains_5 rfl rfl ?_
    refine ok_getI dX2_allGains_6 f_X2_31 (by first | exact is_lit hv (by decide) rfl | exact is_sq hv hq | exact is_row hv hq | exact is_pn hv hq (by assumption) | assumption) rfl ?_
    rw [h6]
    refine ok_icmp_ge (tgt := 26) dX2_allGains_9 (by decide) (fun _ => ?_) (fun c9 => absurd (nI_le (Nat.le_refl _) (by omega)) c9)
    refine ok_iload_n dX2_allGains_26 rfl rfl ?_
    refine ok_ireturn dX2_allGains_27 rfl rfl ?_
    first | exact K | (simp only [↓reduceIte] at K; exact K)
  | succ k ih =>
    intro i  hik 
    have hi : i < n := by omega
    have hi10 : i < 10 := by omega
    refine ok_iload_n dX2_allGains_4 rfl rfl ?_
    refine ok_aload_n dX2_allGains_5 rfl rfl ?_
    refine ok_getI dX2_allGains_6 f_X2_31 (by first | exact is_lit hv (by decide) rfl | exact is_sq hv hq | exact is_row hv hq | exact is_pn hv hq (by assumption) | assumption) rfl ?_
    rw [h6]
    refine ok_icmp_ge (tgt := 26) dX2_allGains_9 (by decide) (fun c9 => absurd c9 (nI_ge hi (by omega))) (fun _ => ?_)
    refine ok_iload_n dX2_allGains_12 rfl rfl ?_
    refine ok_aload_n dX2_allGains_13 rfl rfl ?_
    refine ok_iload_n dX2_allGains_14 rfl rfl ?_
    refine ok_callV (M' := mX2_gainAt) (b' := (0, 0)) (As := [_]) (cx := 2) dX2_allGains_15 iX2_gainAt w_441 (by decide) rfl (by first | exact is_lit hv (by decide) rfl | exact is_sq hv hq | exact is_row hv hq | exact is_pn hv hq (by assumption) | assumption) rfl (Nat.le_of_ble_eq_true rfl) ⟨Nat.le_of_ble_eq_true rfl, Nat.le_of_ble_eq_true rfl⟩ (Nat.le_of_ble_eq_true rfl) rfl rfl ?_
    refine sp_X2_gainAt hv hq hi10 ?_
    refine ok_iadd dX2_allGains_18 ?_
    refine ok_istore_n (lo' := [_, _, _]) dX2_allGains_19 rfl (Nat.le_of_ble_eq_true rfl) rfl rfl ?_
    refine ok_iinc (v := _ + 1) (lo' := [_, _, _]) dX2_allGains_20 rfl rfl (Nat.le_of_ble_eq_true rfl) rfl rfl ?_
    refine ok_goto (tgt := 4) dX2_allGains_23 (by decide) ?_
    rw [nI_1]
    exact ih (i + 1) (by omega)
theorem sp_X2_allGains {g : GG} {h : Hp} {Post : Option Value → Hp → Prop} (hv : Inv h) {q : Nat} (hq : Sqr q) {n : Nat} (hn : n ≤ 10) (h6 : hI h q 6 = nI n) (K : Post (some (.int (w_sum (fun p => (if hI h q 5 ≤ nI p then 0 else pf h q p 2) - pf h q p 4) n))) h) : Sp g mX2_allGains [.ref q] h Post := by
  show Go g mX2_allGains 0 [_, _, _] [] _ _ _
  refine ok_iconst (v := 0) dX2_allGains_0 (by decide) ?_
  refine ok_istore_n (lo' := [_, _, _]) dX2_allGains_1 rfl (Nat.le_of_ble_eq_true rfl) rfl rfl ?_
  refine ok_iconst (v := 0) dX2_allGains_2 (by decide) ?_
  refine ok_istore_n (lo' := [_, _, _]) dX2_allGains_3 rfl (Nat.le_of_ble_eq_true rfl) rfl rfl ?_
  exact lp_X2_allGains_4 hv hq hn h6 K n 0 (by omega)
