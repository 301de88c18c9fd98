/-! ===== the reference: all throw ===== -/
theorem rem_2 : ∀ k, k < 11 → nI k - nI k / 2 * 2 = nI (k % 2) := by decide +kernel
theorem pl_2 {k : Nat} : nI k + 2 = nI (k + 2) := by
  rw [show k + 2 = (k + 1) + 1 from rfl, ← nI_1, ← nI_1, show (2 : Int32) = 1 + 1 from rfl, Int32.add_assoc]
theorem at_uo {h : Hp} {a k j : Nat} {v : Int32} : hI (uI h a k v) a j = if j = k then v else hI h a j := by
  by_cases e : j = k
  · rw [if_pos e, e]; exact at_uI
  · rw [if_neg e]; exact at_un e
theorem at_ua {h : Hp} {a b k j : Nat} {v : Int32} (hb : b ≠ a) : hI (uI h a k v) b j = hI h b j := if_neg (fun e => hb e.1)
theorem lp_X5_findOrder_78 {g : GG} {h0 : Hp} {Post : Option Value → Hp → Prop} (hv0 : Inv h0) {n : Nat} {r : Nat → Int32} (R0 : RM 50 h0 n r) (hl : r 2 = 2) (K : ∀ h', TM h0 h' → (∀ i, i < n → hI h' 52 i = nI (w_ord r n i)) → Post none h') : ∀ (d i : Nat) (h : Hp), i + d = (n + 1) / 2 → TM h0 h → (∀ x, x < n / 2 + i → hI h 52 x = nI (w_ord r n x)) → Go g mX5_findOrder 78 [some (.ref 49), some (.int (nI (n / 2 + i))), some (.int (nI n - 1)), some (.int (nI (2 * i)))] [] h (0, 0) Post := by
  intro d
  induction d with
  | zero =>
    intro i h hd M A
    obtain rfl : i = (n + 1) / 2 := by omega
    have hv := M.1.inv hv0
    have R := M.rm R0
    have hn := R0.1
    refine ok_iload_n dX5_findOrder_78 rfl rfl ?_
    refine ok_iload_n dX5_findOrder_79 rfl rfl ?_
    refine ok_icmp_gt (tgt := 109) dX5_findOrder_80 (by decide) (fun _ => ?_) (fun c9 => absurd ((lt_last (by omega) (by omega)).mpr (by omega)) c9)
    refine ok_return dX5_findOrder_109 rfl ?_
    exact K h M (fun x hx => A x (by omega))
  | succ d ih =>
    intro i h hd M A
    have hv := M.1.inv hv0
    have R := M.rm R0
    have hn := R0.1
    have hi : i < (n + 1) / 2 := by omega
    refine ok_iload_n dX5_findOrder_78 rfl rfl ?_
    refine ok_iload_n dX5_findOrder_79 rfl rfl ?_
    refine ok_icmp_gt (tgt := 109) dX5_findOrder_80 (by decide) (fun c9 => absurd c9 (fun c => by have := (lt_last (by omega) (by omega)).mp c; omega)) (fun _ => ?_)
    refine ok_aload_n dX5_findOrder_83 rfl rfl ?_
    refine ok_getR dX5_findOrder_84 f_X5_7 (by first | exact is_lit hv (by decide) rfl | exact is_sq hv hq | exact is_row hv hq | exact is_pn hv hq (by assumption) | assumption) rfl (by first | exact rf hv rfl | exact rf_row hv hq | assumption) ?_
    refine ok_iconst (v := 2) dX5_findOrder_87 (by decide) ?_
    refine ok_iaload dX5_findOrder_88 (is_lit hv (by decide) rfl) (by unfold vp_in; decide) ?_
    rw [show hI h 50 (Int32.toNatClampNeg 2) = r 2 from R.2.2.1 2 (by decide)]
    refine ok_iconst (v := 2) dX5_findOrder_89 (by decide) ?_
    refine ok_icmp_ne (tgt := 109) dX5_findOrder_90 (by decide) (fun c9 => absurd c9 (by rw [hl]; exact fun c => c rfl)) (fun _ => ?_)
    refine ok_aload_n dX5_findOrder_93 rfl rfl ?_
    refine ok_getR dX5_findOrder_94 f_X5_16 (by first | exact is_lit hv (by decide) rfl | exact is_sq hv hq | exact is_row hv hq | exact is_pn hv hq (by assumption) | assumption) rfl (by first | exact rf hv rfl | exact rf_row hv hq | assumption) ?_
    refine ok_iload_n dX5_findOrder_97 rfl rfl ?_
    refine ok_iload_n dX5_findOrder_98 rfl rfl ?_
    refine ok_iastore dX5_findOrder_99 (is_lit hv (by decide) rfl) (vp_in_nI (by omega) (by decide)) ?_
    refine ok_iinc (v := _ + 1) (lo' := [_, _, _, _]) dX5_findOrder_100 rfl rfl (Nat.le_of_ble_eq_true rfl) rfl rfl ?_
    refine ok_iinc (v := _ + 2) (lo' := [_, _, _, _]) dX5_findOrder_103 rfl rfl (Nat.le_of_ble_eq_true rfl) rfl rfl ?_
    refine ok_goto (tgt := 78) dX5_findOrder_106 (by decide) ?_
    rw [nI_1, pl_2, nI_clamp (by omega)]
    refine ih (i + 1) _ (by omega) (M.u (by omega)) (fun x hx => ?_)
    rw [at_uo]
    by_cases e : x = n / 2 + i
    · have eo : w_ord r n x = 2 * i := by
        unfold w_ord
        rw [if_neg (by rw [hl]; decide), if_pos hl, if_neg (by omega)]
        omega
      rw [if_pos e, eo]
    · rw [if_neg e]; exact A x (by omega)
theorem lp_X5_findOrder_13c {g : GG} {h0 : Hp} {Post : Option Value → Hp → Prop} (hv0 : Inv h0) {n : Nat} {r : Nat → Int32} (R0 : RM 50 h0 n r) (hl : r 2 = 2) (K : ∀ h', TM h0 h' → (∀ i, i < n → hI h' 52 i = nI (w_ord r n i)) → Post none h') : ∀ (d i : Nat) (h : Hp), i + d = n → TM h0 h → (∀ x, x < i / 2 → hI h 52 x = nI (w_ord r n x)) → Go g mX5_findOrder 13 [some (.ref 49), some (.int (nI (i / 2))), some (.int (nI n - 1)), some (.int (nI i))] [] h (0, 0) Post := by
  intro d
  induction d with
  | zero =>
    intro i h hd M A
    obtain rfl : i = n := by omega
    have hv := M.1.inv hv0
    have R := M.rm R0
    have hn := R0.1
    refine ok_iload_n dX5_findOrder_13 rfl rfl ?_
    refine ok_iload_n dX5_findOrder_14 rfl rfl ?_
    refine ok_icmp_gt (tgt := 76) dX5_findOrder_15 (by decide) (fun _ => ?_) (fun c9 => absurd ((lt_last (by omega) (by omega)).mpr (by omega)) c9)
    refine ok_iconst (v := 0) dX5_findOrder_76 (by decide) ?_
    refine ok_istore_n (lo' := [_, _, _, _]) dX5_findOrder_77 rfl (Nat.le_of_ble_eq_true rfl) rfl rfl ?_
    exact lp_X5_findOrder_78 hv0 R0 hl K ((i + 1) / 2) 0 h (by omega) M (fun x hx => A x (by omega))
  | succ d ih =>
    intro i h hd M A
    have hv := M.1.inv hv0
    have R := M.rm R0
    have hn := R0.1
    have hi : i < n := by omega
    refine ok_iload_n dX5_findOrder_13 rfl rfl ?_
    refine ok_iload_n dX5_findOrder_14 rfl rfl ?_
    refine ok_icmp_gt (tgt := 76) dX5_findOrder_15 (by decide) (fun c9 => absurd c9 (fun c => by have := (lt_last (by omega) (by omega)).mp c; omega)) (fun _ => ?_)
    refine ok_aload_n dX5_findOrder_18 rfl rfl ?_
    refine ok_getR dX5_findOrder_19 f_X5_7 (by first | exact is_lit hv (by decide) rfl | exact is_sq hv hq | exact is_row hv hq | exact is_pn hv hq (by assumption) | assumption) rfl (by first | exact rf hv rfl | exact rf_row hv hq | assumption) ?_
    refine ok_iconst (v := 2) dX5_findOrder_22 (by decide) ?_
    refine ok_iaload dX5_findOrder_23 (is_lit hv (by decide) rfl) (by unfold vp_in; decide) ?_
    rw [show hI h 50 (Int32.toNatClampNeg 2) = r 2 from R.2.2.1 2 (by decide)]
    refine ok_iconst (v := 2) dX5_findOrder_24 (by decide) ?_
    refine ok_icmp_ge (tgt := 53) dX5_findOrder_25 (by decide) (fun _ => ?_) (fun c9 => absurd (by rw [hl]; decide) c9)
    refine ok_iload_n dX5_findOrder_53 rfl rfl ?_
    refine ok_iconst (v := 2) dX5_findOrder_54 (by decide) ?_
    refine ok_irem dX5_findOrder_55 (by decide) ?_
    refine ok_iconst (v := 1) dX5_findOrder_56 (by decide) ?_
    rw [rem_2 i (by omega)]
    refine ok_icmp_ne (tgt := 70) dX5_findOrder_57 (by decide) (fun c_57 => ?_) (fun c_57 => ?_)
    · refine ok_iinc (v := _ + 1) (lo' := [_, _, _, _]) dX5_findOrder_70 rfl rfl (Nat.le_of_ble_eq_true rfl) rfl rfl ?_
      refine ok_goto (tgt := 13) dX5_findOrder_73 (by decide) ?_
      first
        | (have e2 : ¬ i % 2 = 1 := fun c => c_57 (by rw [c]; rfl)
           rw [nI_1]
           have ih2 := ih (i + 1) h (by omega) M (fun x hx => A x (by omega))
           rw [show (i + 1) / 2 = i / 2 by omega] at ih2
           exact ih2)
        | (have e2 : i % 2 = 1 := (nI_inj2 (b := 1) (by omega) (by omega)).mp c_57
           rw [nI_1, nI_1, nI_clamp (by omega)]
           have ih2 := ih (i + 1) (uI h 52 (i / 2) (nI i)) (by omega) (M.u (by omega)) (fun x hx => by
             rw [at_uo]
             by_cases e : x = i / 2
             · have eo : w_ord r n x = i := by
                 unfold w_ord
                 rw [if_neg (by rw [hl]; decide), if_pos hl, if_pos (by omega)]
                 omega
               rw [if_pos e, eo]
             · rw [if_neg e]; exact A x (by omega))
           rw [show (i + 1) / 2 = i / 2 + 1 by omega] at ih2
           exact ih2)
    · refine ok_aload_n dX5_findOrder_60 rfl rfl ?_
      refine ok_getR dX5_findOrder_61 f_X5_16 (by first | exact is_lit hv (by decide) rfl | exact is_sq hv hq | exact is_row hv hq | exact is_pn hv hq (by assumption) | assumption) rfl (by first | exact rf hv rfl | exact rf_row hv hq | assumption) ?_
      refine ok_iload_n dX5_findOrder_64 rfl rfl ?_
      refine ok_iload_n dX5_findOrder_65 rfl rfl ?_
      refine ok_iastore dX5_findOrder_66 (is_lit hv (by decide) rfl) (vp_in_nI (by omega) (by decide)) ?_
      refine ok_iinc (v := _ + 1) (lo' := [_, _, _, _]) dX5_findOrder_67 rfl rfl (Nat.le_of_ble_eq_true rfl) rfl rfl ?_
      refine ok_iinc (v := _ + 1) (lo' := [_, _, _, _]) dX5_findOrder_70 rfl rfl (Nat.le_of_ble_eq_true rfl) rfl rfl ?_
      refine ok_goto (tgt := 13) dX5_findOrder_73 (by decide) ?_
      first
        | (have e2 : ¬ i % 2 = 1 := fun c => c_57 (by rw [c]; rfl)
           rw [nI_1]
           have ih2 := ih (i + 1) h (by omega) M (fun x hx => A x (by omega))
           rw [show (i + 1) / 2 = i / 2 by omega] at ih2
           exact ih2)
        | (have e2 : i % 2 = 1 := (nI_inj2 (b := 1) (by omega) (by omega)).mp c_57
           rw [nI_1, nI_1, nI_clamp (by omega)]
           have ih2 := ih (i + 1) (uI h 52 (i / 2) (nI i)) (by omega) (M.u (by omega)) (fun x hx => by
             rw [at_uo]
             by_cases e : x = i / 2
             · have eo : w_ord r n x = i := by
                 unfold w_ord
                 rw [if_neg (by rw [hl]; decide), if_pos hl, if_pos (by omega)]
                 omega
               rw [if_pos e, eo]
             · rw [if_neg e]; exact A x (by omega))
           rw [show (i + 1) / 2 = i / 2 + 1 by omega] at ih2
           exact ih2)
theorem lp_X5_findOrder_13a {g : GG} {h0 : Hp} {Post : Option Value → Hp → Prop} (hv0 : Inv h0) {n : Nat} {r : Nat → Int32} (R0 : RM 50 h0 n r) (hl : r 2 = 0) (K : ∀ h', TM h0 h' → (∀ i, i < n → hI h' 52 i = nI (w_ord r n i)) → Post none h') : ∀ (d i : Nat) (h : Hp), i + d = n → TM h0 h → (∀ x, x < i → hI h 52 x = nI (w_ord r n x)) → Go g mX5_findOrder 13 [some (.ref 49), some (.int 0), some (.int (nI n - 1)), some (.int (nI i))] [] h (0, 0) Post := by
  intro d
  induction d with
  | zero =>
    intro i h hd M A
    obtain rfl : i = n := by omega
    have hv := M.1.inv hv0
    have R := M.rm R0
    have hn := R0.1
    by_cases z0 : i = 0
    · refine ok_iload_n dX5_findOrder_13 rfl rfl ?_
      refine ok_iload_n dX5_findOrder_14 rfl rfl ?_
      refine ok_icmp_gt (tgt := 76) dX5_findOrder_15 (by decide) (fun _ => ?_) (fun c9 => absurd ((lt_last (by omega) (by omega)).mpr (by omega)) c9)
      refine ok_iconst (v := 0) dX5_findOrder_76 (by decide) ?_
      refine ok_istore_n (lo' := [_, _, _, _]) dX5_findOrder_77 rfl (Nat.le_of_ble_eq_true rfl) rfl rfl ?_
      refine ok_iload_n dX5_findOrder_78 rfl rfl ?_
      refine ok_iload_n dX5_findOrder_79 rfl rfl ?_
      refine ok_icmp_gt (tgt := 109) dX5_findOrder_80 (by decide) (fun _ => ?_) (fun c9 => absurd ((lt_last (k := 0) (by omega) (by omega)).mpr (by omega)) c9)
      refine ok_return dX5_findOrder_109 rfl ?_
      exact K h M A
    · refine ok_iload_n dX5_findOrder_13 rfl rfl ?_
      refine ok_iload_n dX5_findOrder_14 rfl rfl ?_
      refine ok_icmp_gt (tgt := 76) dX5_findOrder_15 (by decide) (fun _ => ?_) (fun c9 => absurd ((lt_last (by omega) (by omega)).mpr (by omega)) c9)
      refine ok_iconst (v := 0) dX5_findOrder_76 (by decide) ?_
      refine ok_istore_n (lo' := [_, _, _, _]) dX5_findOrder_77 rfl (Nat.le_of_ble_eq_true rfl) rfl rfl ?_
      refine ok_iload_n dX5_findOrder_78 rfl rfl ?_
      refine ok_iload_n dX5_findOrder_79 rfl rfl ?_
      refine ok_icmp_gt (tgt := 109) dX5_findOrder_80 (by decide) (fun c9 => absurd c9 (fun c => by have := (lt_last (k := 0) (by omega) (by omega)).mp c; omega)) (fun _ => ?_)
      refine ok_aload_n dX5_findOrder_83 rfl rfl ?_
      refine ok_getR dX5_findOrder_84 f_X5_7 (by first | exact is_lit hv (by decide) rfl | exact is_sq hv hq | exact is_row hv hq | exact is_pn hv hq (by assumption) | assumption) rfl (by first | exact rf hv rfl | exact rf_row hv hq | assumption) ?_
      refine ok_iconst (v := 2) dX5_findOrder_87 (by decide) ?_
      refine ok_iaload dX5_findOrder_88 (is_lit hv (by decide) rfl) (by unfold vp_in; decide) ?_
      rw [show hI h 50 (Int32.toNatClampNeg 2) = r 2 from R.2.2.1 2 (by decide)]
      refine ok_iconst (v := 2) dX5_findOrder_89 (by decide) ?_
      refine ok_icmp_ne (tgt := 109) dX5_findOrder_90 (by decide) (fun _ => ?_) (fun c9 => absurd c9 (by rw [hl]; decide))
      refine ok_return dX5_findOrder_109 rfl ?_
      exact K h M A
  | succ d ih =>
    intro i h hd M A
    have hv := M.1.inv hv0
    have R := M.rm R0
    have hn := R0.1
    have hi : i < n := by omega
    have eo : w_ord r n i = i := by unfold w_ord; rw [if_neg (by rw [hl]; decide), if_neg (by rw [hl]; decide)]
    refine ok_iload_n dX5_findOrder_13 rfl rfl ?_
    refine ok_iload_n dX5_findOrder_14 rfl rfl ?_
    refine ok_icmp_gt (tgt := 76) dX5_findOrder_15 (by decide) (fun c9 => absurd c9 (fun c => by have := (lt_last (by omega) (by omega)).mp c; omega)) (fun _ => ?_)
    refine ok_aload_n dX5_findOrder_18 rfl rfl ?_
    refine ok_getR dX5_findOrder_19 f_X5_7 (by first | exact is_lit hv (by decide) rfl | exact is_sq hv hq | exact is_row hv hq | exact is_pn hv hq (by assumption) | assumption) rfl (by first | exact rf hv rfl | exact rf_row hv hq | assumption) ?_
    refine ok_iconst (v := 2) dX5_findOrder_22 (by decide) ?_
    refine ok_iaload dX5_findOrder_23 (is_lit hv (by decide) rfl) (by unfold vp_in; decide) ?_
    rw [show hI h 50 (Int32.toNatClampNeg 2) = r 2 from R.2.2.1 2 (by decide)]
    refine ok_iconst (v := 2) dX5_findOrder_24 (by decide) ?_
    refine ok_icmp_ge (tgt := 53) dX5_findOrder_25 (by decide) (fun c9 => absurd c9 (by rw [hl]; decide)) (fun _ => ?_)
    refine ok_aload_n dX5_findOrder_28 rfl rfl ?_
    refine ok_getR dX5_findOrder_29 f_X5_16 (by first | exact is_lit hv (by decide) rfl | exact is_sq hv hq | exact is_row hv hq | exact is_pn hv hq (by assumption) | assumption) rfl (by first | exact rf hv rfl | exact rf_row hv hq | assumption) ?_
    refine ok_iload_n dX5_findOrder_32 rfl rfl ?_
    refine ok_aload_n dX5_findOrder_33 rfl rfl ?_
    refine ok_getR dX5_findOrder_34 f_X5_7 (by first | exact is_lit hv (by decide) rfl | exact is_sq hv hq | exact is_row hv hq | exact is_pn hv hq (by assumption) | assumption) rfl (by first | exact rf hv rfl | exact rf_row hv hq | assumption) ?_
    refine ok_iconst (v := 2) dX5_findOrder_37 (by decide) ?_
    refine ok_iaload dX5_findOrder_38 (is_lit hv (by decide) rfl) (by unfold vp_in; decide) ?_
    rw [show hI h 50 (Int32.toNatClampNeg 2) = r 2 from R.2.2.1 2 (by decide)]
    refine ok_if_ne (tgt := 46) dX5_findOrder_39 (by decide) (fun c9 => absurd c9 (by rw [hl]; exact fun c => c rfl)) (fun _ => ?_)
    refine ok_iload_n dX5_findOrder_42 rfl rfl ?_
    refine ok_goto (tgt := 49) dX5_findOrder_43 (by decide) ?_
    refine ok_iastore dX5_findOrder_49 (is_lit hv (by decide) rfl) (vp_in_nI (by omega) (by decide)) ?_
    refine ok_goto (tgt := 70) dX5_findOrder_50 (by decide) ?_
    refine ok_iinc (v := _ + 1) (lo' := [_, _, _, _]) dX5_findOrder_70 rfl rfl (Nat.le_of_ble_eq_true rfl) rfl rfl ?_
    refine ok_goto (tgt := 13) dX5_findOrder_73 (by decide) ?_
    rw [nI_1, nI_clamp (by omega)]
    refine ih (i + 1) _ (by omega) (M.u (by omega)) (fun x hx => ?_)
    rw [at_uo]
    by_cases e : x = i
    · rw [if_pos e, e, eo]
    · rw [if_neg e]; exact A x (by omega)
theorem lp_X5_findOrder_13b {g : GG} {h0 : Hp} {Post : Option Value → Hp → Prop} (hv0 : Inv h0) {n : Nat} {r : Nat → Int32} (R0 : RM 50 h0 n r) (hl : r 2 = 1) (K : ∀ h', TM h0 h' → (∀ i, i < n → hI h' 52 i = nI (w_ord r n i)) → Post none h') : ∀ (d i : Nat) (h : Hp), i + d = n → TM h0 h → (∀ x, x < i → hI h 52 x = nI (w_ord r n x)) → Go g mX5_findOrder 13 [some (.ref 49), some (.int 0), some (.int (nI n - 1)), some (.int (nI i))] [] h (0, 0) Post := by
  intro d
  induction d with
  | zero =>
    intro i h hd M A
    obtain rfl : i = n := by omega
    have hv := M.1.inv hv0
    have R := M.rm R0
    have hn := R0.1
    by_cases z0 : i = 0
    · refine ok_iload_n dX5_findOrder_13 rfl rfl ?_
      refine ok_iload_n dX5_findOrder_14 rfl rfl ?_
      refine ok_icmp_gt (tgt := 76) dX5_findOrder_15 (by decide) (fun _ => ?_) (fun c9 => absurd ((lt_last (by omega) (by omega)).mpr (by omega)) c9)
      refine ok_iconst (v := 0) dX5_findOrder_76 (by decide) ?_
      refine ok_istore_n (lo' := [_, _, _, _]) dX5_findOrder_77 rfl (Nat.le_of_ble_eq_true rfl) rfl rfl ?_
      refine ok_iload_n dX5_findOrder_78 rfl rfl ?_
      refine ok_iload_n dX5_findOrder_79 rfl rfl ?_
      refine ok_icmp_gt (tgt := 109) dX5_findOrder_80 (by decide) (fun _ => ?_) (fun c9 => absurd ((lt_last (k := 0) (by omega) (by omega)).mpr (by omega)) c9)
      refine ok_return dX5_findOrder_109 rfl ?_
      exact K h M A
    · refine ok_iload_n dX5_findOrder_13 rfl rfl ?_
      refine ok_iload_n dX5_findOrder_14 rfl rfl ?_
      refine ok_icmp_gt (tgt := 76) dX5_findOrder_15 (by decide) (fun _ => ?_) (fun c9 => absurd ((lt_last (by omega) (by omega)).mpr (by omega)) c9)
      refine ok_iconst (v := 0) dX5_findOrder_76 (by decide) ?_
      refine ok_istore_n (lo' := [_, _, _, _]) dX5_findOrder_77 rfl (Nat.le_of_ble_eq_true rfl) rfl rfl ?_
      refine ok_iload_n dX5_findOrder_78 rfl rfl ?_
      refine ok_iload_n dX5_findOrder_79 rfl rfl ?_
      refine ok_icmp_gt (tgt := 109) dX5_findOrder_80 (by decide) (fun c9 => absurd c9 (fun c => by have := (lt_last (k := 0) (by omega) (by omega)).mp c; omega)) (fun _ => ?_)
      refine ok_aload_n dX5_findOrder_83 rfl rfl ?_
      refine ok_getR dX5_findOrder_84 f_X5_7 (by first | exact is_lit hv (by decide) rfl | exact is_sq hv hq | exact is_row hv hq | exact is_pn hv hq (by assumption) | assumption) rfl (by first | exact rf hv rfl | exact rf_row hv hq | assumption) ?_
      refine ok_iconst (v := 2) dX5_findOrder_87 (by decide) ?_
      refine ok_iaload dX5_findOrder_88 (is_lit hv (by decide) rfl) (by unfold vp_in; decide) ?_
      rw [show hI h 50 (Int32.toNatClampNeg 2) = r 2 from R.2.2.1 2 (by decide)]
      refine ok_iconst (v := 2) dX5_findOrder_89 (by decide) ?_
      refine ok_icmp_ne (tgt := 109) dX5_findOrder_90 (by decide) (fun _ => ?_) (fun c9 => absurd c9 (by rw [hl]; decide))
      refine ok_return dX5_findOrder_109 rfl ?_
      exact K h M A
  | succ d ih =>
    intro i h hd M A
    have hv := M.1.inv hv0
    have R := M.rm R0
    have hn := R0.1
    have hi : i < n := by omega
    have eo : nI (w_ord r n i) = nI n - 1 - nI i := by
      unfold w_ord
      rw [if_pos hl, show n - 1 - i = n - (i + 1) by omega, ← nI_mi (by omega) (by omega), ← nI_1, Int32.sub_eq_add_neg, Int32.sub_eq_add_neg, Int32.sub_eq_add_neg, Int32.neg_add, Int32.add_assoc, Int32.add_comm (-1)]
      rw [Int32.sub_eq_add_neg]
    refine ok_iload_n dX5_findOrder_13 rfl rfl ?_
    refine ok_iload_n dX5_findOrder_14 rfl rfl ?_
    refine ok_icmp_gt (tgt := 76) dX5_findOrder_15 (by decide) (fun c9 => absurd c9 (fun c => by have := (lt_last (by omega) (by omega)).mp c; omega)) (fun _ => ?_)
    refine ok_aload_n dX5_findOrder_18 rfl rfl ?_
    refine ok_getR dX5_findOrder_19 f_X5_7 (by first | exact is_lit hv (by decide) rfl | exact is_sq hv hq | exact is_row hv hq | exact is_pn hv hq (by assumption) | assumption) rfl (by first | exact rf hv rfl | exact rf_row hv hq | assumption) ?_
    refine ok_iconst (v := 2) dX5_findOrder_22 (by decide) ?_
    refine ok_iaload dX5_findOrder_23 (is_lit hv (by decide) rfl) (by unfold vp_in; decide) ?_
    rw [show hI h 50 (Int32.toNatClampNeg 2) = r 2 from R.2.2.1 2 (by decide)]
    refine ok_iconst (v := 2) dX5_findOrder_24 (by decide) ?_
    refine ok_icmp_ge (tgt := 53) dX5_findOrder_25 (by decide) (fun c9 => absurd c9 (by rw [hl]; decide)) (fun _ => ?_)
    refine ok_aload_n dX5_findOrder_28 rfl rfl ?_
    refine ok_getR dX5_findOrder_29 f_X5_16 (by first | exact is_lit hv (by decide) rfl | exact is_sq hv hq | exact is_row hv hq | exact is_pn hv hq (by assumption) | assumption) rfl (by first | exact rf hv rfl | exact rf_row hv hq | assumption) ?_
    refine ok_iload_n dX5_findOrder_32 rfl rfl ?_
    refine ok_aload_n dX5_findOrder_33 rfl rfl ?_
    refine ok_getR dX5_findOrder_34 f_X5_7 (by first | exact is_lit hv (by decide) rfl | exact is_sq hv hq | exact is_row hv hq | exact is_pn hv hq (by assumption) | assumption) rfl (by first | exact rf hv rfl | exact rf_row hv hq | assumption) ?_
    refine ok_iconst (v := 2) dX5_findOrder_37 (by decide) ?_
    refine ok_iaload dX5_findOrder_38 (is_lit hv (by decide) rfl) (by unfold vp_in; decide) ?_
    rw [show hI h 50 (Int32.toNatClampNeg 2) = r 2 from R.2.2.1 2 (by decide)]
    refine ok_if_ne (tgt := 46) dX5_findOrder_39 (by decide) (fun _ => ?_) (fun c9 => absurd c9 (by rw [hl]; decide))
    refine ok_iload_n dX5_findOrder_46 rfl rfl ?_
    refine ok_iload_n dX5_findOrder_47 rfl rfl ?_
    refine ok_isub dX5_findOrder_48 ?_
    refine ok_iastore dX5_findOrder_49 (is_lit hv (by decide) rfl) (vp_in_nI (by omega) (by decide)) ?_
    refine ok_goto (tgt := 70) dX5_findOrder_50 (by decide) ?_
    refine ok_iinc (v := _ + 1) (lo' := [_, _, _, _]) dX5_findOrder_70 rfl rfl (Nat.le_of_ble_eq_true rfl) rfl rfl ?_
    refine ok_goto (tgt := 13) dX5_findOrder_73 (by decide) ?_
    rw [nI_1, nI_clamp (by omega)]
    refine ih (i + 1) _ (by omega) (M.u (by omega)) (fun x hx => ?_)
    rw [at_uo]
    by_cases e : x = i
    · rw [if_pos e, e, eo]
    · rw [if_neg e]; exact A x (by omega)
theorem sp_X5_findOrder {g : GG} {h : Hp} {Post : Option Value → Hp → Prop} (hv : Inv h) {n : Nat} {r : Nat → Int32} (R : RM 50 h n r) (G : RG r n) (K : ∀ h', TM h h' → (∀ i, i < n → hI h' 52 i = nI (w_ord r n i)) → Post none h') : Sp g mX5_findOrder [.ref 49] h Post := by
  show Go g mX5_findOrder 0 [_, _, _, _] [] _ _ _
  refine ok_iconst (v := 0) dX5_findOrder_0 (by decide) ?_
  refine ok_istore_n (lo' := [_, _, _, _]) dX5_findOrder_1 rfl (Nat.le_of_ble_eq_true rfl) rfl rfl ?_
  refine ok_aload_n dX5_findOrder_2 rfl rfl ?_
  refine ok_getR dX5_findOrder_3 f_X5_7 (by first | exact is_lit hv (by decide) rfl | exact is_sq hv hq | exact is_row hv hq | exact is_pn hv hq (by assumption) | assumption) rfl (by first | exact rf hv rfl | exact rf_row hv hq | assumption) ?_
  refine ok_iconst (v := 0) dX5_findOrder_6 (by decide) ?_
  refine ok_iaload dX5_findOrder_7 (is_lit hv (by decide) rfl) (by unfold vp_in; decide) ?_
  rw [show hI h 50 (Int32.toNatClampNeg 0) = r 0 from R.2.2.1 0 (by decide)]
  rw [R.2.1]
  refine ok_iconst (v := 1) dX5_findOrder_8 (by decide) ?_
  refine ok_isub dX5_findOrder_9 ?_
  refine ok_istore_n (lo' := [_, _, _, _]) dX5_findOrder_10 rfl (Nat.le_of_ble_eq_true rfl) rfl rfl ?_
  refine ok_iconst (v := 0) dX5_findOrder_11 (by decide) ?_
  refine ok_istore_n (lo' := [_, _, _, _]) dX5_findOrder_12 rfl (Nat.le_of_ble_eq_true rfl) rfl rfl ?_
  rcases G.2.2.1 with hl | hl | hl
  · exact lp_X5_findOrder_13a hv R hl K n 0 h (by omega) TM.rf (fun x hx => absurd hx (by omega))
  · exact lp_X5_findOrder_13b hv R hl K n 0 h (by omega) TM.rf (fun x hx => absurd hx (by omega))
  · exact lp_X5_findOrder_13c hv R hl K n 0 h (by omega) TM.rf (fun x hx => absurd hx (by omega))
theorem lp_X5_throwAll_14 {g : GG} {h0 : Hp} {Post : Option Value → Hp → Prop} (hv0 : Inv h0) {n : Nat} {r : Nat → Int32} (R0 : RM 50 h0 n r) (G : RG r n) (who c : Int32) (K : ∀ h', TM h0 h' → hI h' 49 4 = w_will r n who c → (∀ p, p < n → hI h' 53 p = w_thr r n who c p) → Post none h') : ∀ (d i : Nat) (h : Hp) (x5 : Option Value), i + d = n → TM h0 h → (∀ x, x < n → hI h 52 x = nI (w_ord r n x)) → (∀ p, w_vis r n i p = true → hI h 53 p = w_th r n who c i p) → Go g mX5_throwAll 14 [some (.ref 49), some (.int who), some (.int c), some (.int (w_cs r n who c i)), some (.int (nI i)), x5] [] h (0, 0) Post := by
  intro d
  induction d with
  | zero =>
    intro i h x5 hd M A V
    obtain rfl : i = n := by omega
    have hv := M.1.inv hv0
    have R := M.rm R0
    have hn := R0.1
    refine ok_iload dX5_throwAll_14 rfl ?_
    refine ok_aload_n dX5_throwAll_16 rfl rfl ?_
    refine ok_getR dX5_throwAll_17 f_X5_7 (by first | exact is_lit hv (by decide) rfl | exact is_sq hv hq | exact is_row hv hq | exact is_pn hv hq (by assumption) | assumption) rfl (by first | exact rf hv rfl | exact rf_row hv hq | assumption) ?_
    refine ok_iconst (v := 0) dX5_throwAll_20 (by decide) ?_
    refine ok_iaload dX5_throwAll_21 (is_lit hv (by decide) rfl) (by unfold vp_in; decide) ?_
    rw [show hI h 50 (Int32.toNatClampNeg 0) = r 0 from R.2.2.1 0 (by decide)]
    rw [R.2.1]
    refine ok_icmp_ge (tgt := 80) dX5_throwAll_22 (by decide) (fun _ => ?_) (fun c9 => absurd (nI_le (Nat.le_refl _) (by omega)) c9)
    refine ok_aload_n dX5_throwAll_80 rfl rfl ?_
    refine ok_iload_n dX5_throwAll_81 rfl rfl ?_
    refine ok_putI dX5_throwAll_82 f_X5_104 (by first | exact is_lit hv (by decide) rfl | exact is_sq hv hq | exact is_row hv hq | exact is_pn hv hq (by assumption) | assumption) rfl rfl rfl rfl ?_
    refine ok_return dX5_throwAll_85 rfl ?_
    exact K _ (M.u (by omega)) at_uI (fun p hp => (at_ua (by decide)).trans (V p (vis_all hp)))
  | succ d ih =>
    intro i h x5 hd M A V
    have hv := M.1.inv hv0
    have R := M.rm R0
    have hn := R0.1
    have hi : i < n := by omega
    have ho := ord_lt (r := r) hi
    refine ok_iload dX5_throwAll_14 rfl ?_
    refine ok_aload_n dX5_throwAll_16 rfl rfl ?_
    refine ok_getR dX5_throwAll_17 f_X5_7 (by first | exact is_lit hv (by decide) rfl | exact is_sq hv hq | exact is_row hv hq | exact is_pn hv hq (by assumption) | assumption) rfl (by first | exact rf hv rfl | exact rf_row hv hq | assumption) ?_
    refine ok_iconst (v := 0) dX5_throwAll_20 (by decide) ?_
    refine ok_iaload dX5_throwAll_21 (is_lit hv (by decide) rfl) (by unfold vp_in; decide) ?_
    rw [show hI h 50 (Int32.toNatClampNeg 0) = r 0 from R.2.2.1 0 (by decide)]
    rw [R.2.1]
    refine ok_icmp_ge (tgt := 80) dX5_throwAll_22 (by decide) (fun c9 => absurd c9 (nI_ge hi (by omega))) (fun _ => ?_)
    refine ok_aload_n dX5_throwAll_25 rfl rfl ?_
    refine ok_getR dX5_throwAll_26 f_X5_16 (by first | exact is_lit hv (by decide) rfl | exact is_sq hv hq | exact is_row hv hq | exact is_pn hv hq (by assumption) | assumption) rfl (by first | exact rf hv rfl | exact rf_row hv hq | assumption) ?_
    refine ok_iload dX5_throwAll_29 rfl ?_
    refine ok_iaload dX5_throwAll_31 (is_lit hv (by decide) rfl) (vp_in_nI (by omega) (by decide)) ?_
    rw [nI_clamp (by omega), A i hi]
    refine ok_istore (lo' := [_, _, _, _, _, _]) dX5_throwAll_32 (Nat.le_of_ble_eq_true rfl) rfl rfl ?_
    refine ok_aload_n dX5_throwAll_34 rfl rfl ?_
    refine ok_getR dX5_throwAll_35 f_X5_19 (by first | exact is_lit hv (by decide) rfl | exact is_sq hv hq | exact is_row hv hq | exact is_pn hv hq (by assumption) | assumption) rfl (by first | exact rf hv rfl | exact rf_row hv hq | assumption) ?_
    refine ok_iload dX5_throwAll_38 rfl ?_
    refine ok_iload dX5_throwAll_40 rfl ?_
    refine ok_iload_n dX5_throwAll_42 rfl rfl ?_
    refine ok_icmp_ne (tgt := 50) dX5_throwAll_43 (by decide) (fun c_43 => ?_) (fun c_43 => ?_)
    · refine ok_aload_n dX5_throwAll_50 rfl rfl ?_
      refine ok_iload dX5_throwAll_51 rfl ?_
      refine ok_iload_n dX5_throwAll_53 rfl rfl ?_
      refine ok_callV (M' := mX5_would) (b' := (0, 0)) (As := [_, _]) (cx := 5) dX5_throwAll_54 iX5_would w_883 (by decide) rfl (by first | exact is_lit hv (by decide) rfl | exact is_sq hv hq | exact is_row hv hq | exact is_pn hv hq (by assumption) | assumption) rfl (Nat.le_of_ble_eq_true rfl) ⟨Nat.le_of_ble_eq_true rfl, Nat.le_of_ble_eq_true rfl⟩ (Nat.le_of_ble_eq_true rfl) rfl rfl ?_
      refine sp_X5_would hv R G ho _ ?_
      refine ok_iastore dX5_throwAll_57 (is_lit hv (by decide) rfl) (vp_in_nI (by omega) (by decide)) ?_
      rw [nI_clamp (by omega)]
      refine ok_iload_n dX5_throwAll_58 rfl rfl ?_
      refine ok_aload_n dX5_throwAll_59 rfl rfl ?_
      refine ok_getR dX5_throwAll_60 f_X5_19 (by first | exact is_lit hv (by decide) rfl | exact is_sq hv hq | exact is_row hv hq | exact is_pn hv hq (by assumption) | assumption) rfl (by first | exact rf hv rfl | exact rf_row hv hq | assumption) ?_
      refine ok_iload dX5_throwAll_63 rfl ?_
      refine ok_iaload dX5_throwAll_65 (is_lit hv (by decide) rfl) (vp_in_nI (by omega) (by decide)) ?_
      rw [nI_clamp (by omega), at_uI]
      refine ok_iadd dX5_throwAll_66 ?_
      refine ok_sipush (v := 999) dX5_throwAll_67 (by decide) ?_
      refine ok_callS (M' := mX5_cut) (b' := (0, 0)) (As := [_, _]) dX5_throwAll_70 iX5_cut w_887 rfl (Nat.le_of_ble_eq_true rfl) ⟨Nat.le_of_ble_eq_true rfl, Nat.le_of_ble_eq_true rfl⟩ (Nat.le_of_ble_eq_true rfl) rfl rfl ?_
      refine sp_X5_cut _ _ ?_
      refine ok_istore_n (lo' := [_, _, _, _, _, _]) dX5_throwAll_73 rfl (Nat.le_of_ble_eq_true rfl) rfl rfl ?_
      refine ok_iinc (v := _ + 1) (lo' := [_, _, _, _, _, _]) dX5_throwAll_74 rfl rfl (Nat.le_of_ble_eq_true rfl) rfl rfl ?_
      refine ok_goto (tgt := 14) dX5_throwAll_77 (by decide) ?_
      first
        | (have ea : w_amt r n who c i (w_cs r n who c i) = c := if_pos c_43
           have e := ih (i + 1) (uI h 53 (w_ord r n i) c) (some (.int (nI (w_ord r n i)))) (by omega) (M.u (by omega)) (fun x hx => (at_ua (by decide)).trans (A x hx)) (fun p hp => ?_)
           · rw [w_cs, ea] at e
             rw [nI_1]
             exact e
           · rw [at_uo]
             by_cases e : p = w_ord r n i
             · rw [if_pos e]; exact ((if_pos e).trans ea).symm
             · rw [if_neg e]
               have hb : (p == w_ord r n i) = false := by simpa using e
               simp only [w_vis, hb, Bool.false_or] at hp
               exact (V p hp).trans (if_neg e).symm)
        | (have ea : w_amt r n who c i (w_cs r n who c i) = w_would r (w_ord r n i) (w_cs r n who c i) := if_neg c_43
           have e := ih (i + 1) (uI h 53 (w_ord r n i) (w_would r (w_ord r n i) (w_cs r n who c i))) (some (.int (nI (w_ord r n i)))) (by omega) (M.u (by omega)) (fun x hx => (at_ua (by decide)).trans (A x hx)) (fun p hp => ?_)
           · rw [w_cs, ea] at e
             rw [nI_1]
             exact e
           · rw [at_uo]
             by_cases e : p = w_ord r n i
             · rw [if_pos e]; exact ((if_pos e).trans ea).symm
             · rw [if_neg e]
               have hb : (p == w_ord r n i) = false := by simpa using e
               simp only [w_vis, hb, Bool.false_or] at hp
               exact (V p hp).trans (if_neg e).symm)
    · refine ok_iload_n dX5_throwAll_46 rfl rfl ?_
      refine ok_goto (tgt := 57) dX5_throwAll_47 (by decide) ?_
      refine ok_iastore dX5_throwAll_57 (is_lit hv (by decide) rfl) (vp_in_nI (by omega) (by decide)) ?_
      rw [nI_clamp (by omega)]
      refine ok_iload_n dX5_throwAll_58 rfl rfl ?_
      refine ok_aload_n dX5_throwAll_59 rfl rfl ?_
      refine ok_getR dX5_throwAll_60 f_X5_19 (by first | exact is_lit hv (by decide) rfl | exact is_sq hv hq | exact is_row hv hq | exact is_pn hv hq (by assumption) | assumption) rfl (by first | exact rf hv rfl | exact rf_row hv hq | assumption) ?_
      refine ok_iload dX5_throwAll_63 rfl ?_
      refine ok_iaload dX5_throwAll_65 (is_lit hv (by decide) rfl) (vp_in_nI (by omega) (by decide)) ?_
      rw [nI_clamp (by omega), at_uI]
      refine ok_iadd dX5_throwAll_66 ?_
      refine ok_sipush (v := 999) dX5_throwAll_67 (by decide) ?_
      refine ok_callS (M' := mX5_cut) (b' := (0, 0)) (As := [_, _]) dX5_throwAll_70 iX5_cut w_887 rfl (Nat.le_of_ble_eq_true rfl) ⟨Nat.le_of_ble_eq_true rfl, Nat.le_of_ble_eq_true rfl⟩ (Nat.le_of_ble_eq_true rfl) rfl rfl ?_
      refine sp_X5_cut _ _ ?_
      refine ok_istore_n (lo' := [_, _, _, _, _, _]) dX5_throwAll_73 rfl (Nat.le_of_ble_eq_true rfl) rfl rfl ?_
      refine ok_iinc (v := _ + 1) (lo' := [_, _, _, _, _, _]) dX5_throwAll_74 rfl rfl (Nat.le_of_ble_eq_true rfl) rfl rfl ?_
      refine ok_goto (tgt := 14) dX5_throwAll_77 (by decide) ?_
      first
        | (have ea : w_amt r n who c i (w_cs r n who c i) = c := if_pos c_43
           have e := ih (i + 1) (uI h 53 (w_ord r n i) c) (some (.int (nI (w_ord r n i)))) (by omega) (M.u (by omega)) (fun x hx => (at_ua (by decide)).trans (A x hx)) (fun p hp => ?_)
           · rw [w_cs, ea] at e
             rw [nI_1]
             exact e
           · rw [at_uo]
             by_cases e : p = w_ord r n i
             · rw [if_pos e]; exact ((if_pos e).trans ea).symm
             · rw [if_neg e]
               have hb : (p == w_ord r n i) = false := by simpa using e
               simp only [w_vis, hb, Bool.false_or] at hp
               exact (V p hp).trans (if_neg e).symm)
        | (have ea : w_amt r n who c i (w_cs r n who c i) = w_would r (w_ord r n i) (w_cs r n who c i) := if_neg c_43
           have e := ih (i + 1) (uI h 53 (w_ord r n i) (w_would r (w_ord r n i) (w_cs r n who c i))) (some (.int (nI (w_ord r n i)))) (by omega) (M.u (by omega)) (fun x hx => (at_ua (by decide)).trans (A x hx)) (fun p hp => ?_)
           · rw [w_cs, ea] at e
             rw [nI_1]
             exact e
           · rw [at_uo]
             by_cases e : p = w_ord r n i
             · rw [if_pos e]; exact ((if_pos e).trans ea).symm
             · rw [if_neg e]
               have hb : (p == w_ord r n i) = false := by simpa using e
               simp only [w_vis, hb, Bool.false_or] at hp
               exact (V p hp).trans (if_neg e).symm)
theorem sp_X5_throwAll {g : GG} {h : Hp} {Post : Option Value → Hp → Prop} (hv : Inv h) {n : Nat} {r : Nat → Int32} (R : RM 50 h n r) (G : RG r n) (who c : Int32) (K : ∀ h', TM h h' → hI h' 49 4 = w_will r n who c → (∀ p, p < n → hI h' 53 p = w_thr r n who c p) → Post none h') : Sp g mX5_throwAll [.ref 49, .int who, .int c] h Post := by
  show Go g mX5_throwAll 0 [_, _, _, _, _, _] [] _ _ _
  refine ok_aload_n dX5_throwAll_0 rfl rfl ?_
  refine ok_callV (M' := mX5_findOrder) (b' := (0, 0)) (As := []) (cx := 5) dX5_throwAll_1 iX5_findOrder w_947 (by decide) rfl (by first | exact is_lit hv (by decide) rfl | exact is_sq hv hq | exact is_row hv hq | exact is_pn hv hq (by assumption) | assumption) rfl (Nat.le_of_ble_eq_true rfl) ⟨Nat.le_of_ble_eq_true rfl, Nat.le_of_ble_eq_true rfl⟩ (Nat.le_of_ble_eq_true rfl) rfl rfl ?_
  refine sp_X5_findOrder hv R G (fun h1 M1 A1 => ?_)
  have hv0 := hv
  have R0 := R
  have hv := M1.1.inv hv
  have R := M1.rm R
  refine ok_aload_n dX5_throwAll_4 rfl rfl ?_
  refine ok_getR dX5_throwAll_5 f_X5_7 (by first | exact is_lit hv (by decide) rfl | exact is_sq hv hq | exact is_row hv hq | exact is_pn hv hq (by assumption) | assumption) rfl (by first | exact rf hv rfl | exact rf_row hv hq | assumption) ?_
  refine ok_iconst (v := 1) dX5_throwAll_8 (by decide) ?_
  refine ok_iaload dX5_throwAll_9 (is_lit hv (by decide) rfl) (by unfold vp_in; decide) ?_
  rw [show hI h1 50 (Int32.toNatClampNeg 1) = r 1 from R.2.2.1 1 (by decide)]
  refine ok_istore_n (lo' := [_, _, _, _, _, _]) dX5_throwAll_10 rfl (Nat.le_of_ble_eq_true rfl) rfl rfl ?_
  refine ok_iconst (v := 0) dX5_throwAll_11 (by decide) ?_
  refine ok_istore (lo' := [_, _, _, _, _, _]) dX5_throwAll_12 (Nat.le_of_ble_eq_true rfl) rfl rfl ?_
  exact lp_X5_throwAll_14 hv0 R0 G who c K n 0 h1 none (by omega) M1 A1 (fun p hp => by cases hp)
