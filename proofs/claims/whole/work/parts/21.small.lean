/-! ===== small methods of the class: within, stands, thinks .. ===== -/
theorem sp_X4_isWithin {g : GG} {h : Hp} {Post : Option Value → Hp → Prop} (v l u : Int32) (K : Post (some (.int (if v < l then 0 else if u < v then 0 else 1))) h) : Sp g mX4_isWithin [.int v, .int l, .int u] h Post := by
  show Go g mX4_isWithin 0 [_, _, _] [] _ _ _
  refine ok_iload_n dX4_isWithin_0 rfl rfl ?_
  refine ok_iload_n dX4_isWithin_1 rfl rfl ?_
  refine ok_icmp_lt (tgt := 14) dX4_isWithin_2 (by decide) (fun c_2 => ?_) (fun c_2 => ?_)
  · refine ok_iconst (v := 0) dX4_isWithin_14 (by decide) ?_
    refine ok_ireturn dX4_isWithin_15 rfl rfl ?_
    first | exact K | (simp only [c_2, ↓reduceIte] at K; exact K)
  · refine ok_iload_n dX4_isWithin_5 rfl rfl ?_
    refine ok_iload_n dX4_isWithin_6 rfl rfl ?_
    refine ok_icmp_gt (tgt := 14) dX4_isWithin_7 (by decide) (fun c_7 => ?_) (fun c_7 => ?_)
    · refine ok_iconst (v := 0) dX4_isWithin_14 (by decide) ?_
      refine ok_ireturn dX4_isWithin_15 rfl rfl ?_
      first | exact K | (simp only [c_2, c_7, ↓reduceIte] at K; exact K)
    · refine ok_iconst (v := 1) dX4_isWithin_10 (by decide) ?_
      refine ok_goto (tgt := 15) dX4_isWithin_11 (by decide) ?_
      refine ok_ireturn dX4_isWithin_15 rfl rfl ?_
      first | exact K | (simp only [c_2, c_7, ↓reduceIte] at K; exact K)
theorem sp_X4_oneIf {g : GG} {h : Hp} {Post : Option Value → Hp → Prop} (v : Int32) (K : Post (some (.int (if v = 0 then 0 else 1))) h) : Sp g mX4_oneIf [.int v] h Post := by
  show Go g mX4_oneIf 0 [_] [] _ _ _
  refine ok_iload_n dX4_oneIf_0 rfl rfl ?_
  refine ok_if_eq (tgt := 8) dX4_oneIf_1 (by decide) (fun c_1 => ?_) (fun c_1 => ?_)
  · refine ok_iconst (v := 0) dX4_oneIf_8 (by decide) ?_
    refine ok_ireturn dX4_oneIf_9 rfl rfl ?_
    first | exact K | (simp only [c_1, ↓reduceIte] at K; exact K)
  · refine ok_iconst (v := 1) dX4_oneIf_4 (by decide) ?_
    refine ok_goto (tgt := 9) dX4_oneIf_5 (by decide) ?_
    refine ok_ireturn dX4_oneIf_9 rfl rfl ?_
    first | exact K | (simp only [c_1, ↓reduceIte] at K; exact K)
theorem sp_X4_isKind {g : GG} {h : Hp} {Post : Option Value → Hp → Prop} (v : Int32) (K : Post (some (.int (if v < 0 then 0 else if 6 ≤ v then 0 else 1))) h) : Sp g mX4_isKind [.int v] h Post := by
  show Go g mX4_isKind 0 [_] [] _ _ _
  refine ok_iload_n dX4_isKind_0 rfl rfl ?_
  refine ok_if_lt (tgt := 14) dX4_isKind_1 (by decide) (fun c_1 => ?_) (fun c_1 => ?_)
  · refine ok_iconst (v := 0) dX4_isKind_14 (by decide) ?_
    refine ok_ireturn dX4_isKind_15 rfl rfl ?_
    first | exact K | (simp only [c_1, ↓reduceIte] at K; exact K)
  · refine ok_iload_n dX4_isKind_4 rfl rfl ?_
    refine ok_bipush (v := 6) dX4_isKind_5 (by decide) ?_
    refine ok_icmp_ge (tgt := 14) dX4_isKind_7 (by decide) (fun c_7 => ?_) (fun c_7 => ?_)
    · refine ok_iconst (v := 0) dX4_isKind_14 (by decide) ?_
      refine ok_ireturn dX4_isKind_15 rfl rfl ?_
      first | exact K | (simp only [c_1, c_7, ↓reduceIte] at K; exact K)
    · refine ok_iconst (v := 1) dX4_isKind_10 (by decide) ?_
      refine ok_goto (tgt := 15) dX4_isKind_11 (by decide) ?_
      refine ok_ireturn dX4_isKind_15 rfl rfl ?_
      first | exact K | (simp only [c_1, c_7, ↓reduceIte] at K; exact K)
theorem sp_X4_isSheet {g : GG} {h : Hp} {Post : Option Value → Hp → Prop} (v : Int32) (K : Post (some (.int (if v < 0 then 0 else if 4 ≤ v then 0 else 1))) h) : Sp g mX4_isSheet [.int v] h Post := by
  show Go g mX4_isSheet 0 [_] [] _ _ _
  refine ok_iload_n dX4_isSheet_0 rfl rfl ?_
  refine ok_if_lt (tgt := 13) dX4_isSheet_1 (by decide) (fun c_1 => ?_) (fun c_1 => ?_)
  · refine ok_iconst (v := 0) dX4_isSheet_13 (by decide) ?_
    refine ok_ireturn dX4_isSheet_14 rfl rfl ?_
    first | exact K | (simp only [c_1, ↓reduceIte] at K; exact K)
  · refine ok_iload_n dX4_isSheet_4 rfl rfl ?_
    refine ok_iconst (v := 4) dX4_isSheet_5 (by decide) ?_
    refine ok_icmp_ge (tgt := 13) dX4_isSheet_6 (by decide) (fun c_6 => ?_) (fun c_6 => ?_)
    · refine ok_iconst (v := 0) dX4_isSheet_13 (by decide) ?_
      refine ok_ireturn dX4_isSheet_14 rfl rfl ?_
      first | exact K | (simp only [c_1, c_6, ↓reduceIte] at K; exact K)
    · refine ok_iconst (v := 1) dX4_isSheet_9 (by decide) ?_
      refine ok_goto (tgt := 14) dX4_isSheet_10 (by decide) ?_
      refine ok_ireturn dX4_isSheet_14 rfl rfl ?_
      first | exact K | (simp only [c_1, c_6, ↓reduceIte] at K; exact K)
theorem sp_X4_isWidth {g : GG} {h : Hp} {Post : Option Value → Hp → Prop} (v : Int32) (K : Post (some (.int (if v = 0 then 1 else if v = 8 then 1 else if v = 16 then 1 else if v = 64 then 1 else 0))) h) : Sp g mX4_isWidth [.int v] h Post := by
  show Go g mX4_isWidth 0 [_] [] _ _ _
  refine ok_iload_n dX4_isWidth_0 rfl rfl ?_
  refine ok_if_eq (tgt := 22) dX4_isWidth_1 (by decide) (fun c_1 => ?_) (fun c_1 => ?_)
  · refine ok_iconst (v := 1) dX4_isWidth_22 (by decide) ?_
    refine ok_goto (tgt := 27) dX4_isWidth_23 (by decide) ?_
    refine ok_ireturn dX4_isWidth_27 rfl rfl ?_
    first | exact K | (simp only [c_1, ↓reduceIte] at K; exact K)
  · refine ok_iload_n dX4_isWidth_4 rfl rfl ?_
    refine ok_bipush (v := 8) dX4_isWidth_5 (by decide) ?_
    refine ok_icmp_eq (tgt := 22) dX4_isWidth_7 (by decide) (fun c_7 => ?_) (fun c_7 => ?_)
    · refine ok_iconst (v := 1) dX4_isWidth_22 (by decide) ?_
      refine ok_goto (tgt := 27) dX4_isWidth_23 (by decide) ?_
      refine ok_ireturn dX4_isWidth_27 rfl rfl ?_
      first | exact K | (simp only [c_1, c_7, ↓reduceIte] at K; exact K)
    · refine ok_iload_n dX4_isWidth_10 rfl rfl ?_
      refine ok_bipush (v := 16) dX4_isWidth_11 (by decide) ?_
      refine ok_icmp_eq (tgt := 22) dX4_isWidth_13 (by decide) (fun c_13 => ?_) (fun c_13 => ?_)
      · refine ok_iconst (v := 1) dX4_isWidth_22 (by decide) ?_
        refine ok_goto (tgt := 27) dX4_isWidth_23 (by decide) ?_
        refine ok_ireturn dX4_isWidth_27 rfl rfl ?_
        first | exact K | (simp only [c_1, c_7, c_13, ↓reduceIte] at K; exact K)
      · refine ok_iload_n dX4_isWidth_16 rfl rfl ?_
        refine ok_bipush (v := 64) dX4_isWidth_17 (by decide) ?_
        refine ok_icmp_ne (tgt := 26) dX4_isWidth_19 (by decide) (fun c_19 => ?_) (fun c_19 => ?_)
        · refine ok_iconst (v := 0) dX4_isWidth_26 (by decide) ?_
          refine ok_ireturn dX4_isWidth_27 rfl rfl ?_
          first | exact K | (simp only [c_1, c_7, c_13, c_19, ↓reduceIte] at K; exact K)
        · refine ok_iconst (v := 1) dX4_isWidth_22 (by decide) ?_
          refine ok_goto (tgt := 27) dX4_isWidth_23 (by decide) ?_
          refine ok_ireturn dX4_isWidth_27 rfl rfl ?_
          first | exact K | (simp only [c_1, c_7, c_13, c_19, ↓reduceIte] at K; exact K)
theorem sp_X2_stands {g : GG} {h : Hp} {Post : Option Value → Hp → Prop} (hv : Inv h) {q : Nat} (hq : Sqr q) (p : Int32) (K : Post (some (.int (if p < 0 then 0 else if hI h q 6 ≤ p then 0 else 1))) h) : Sp g mX2_stands [.ref q, .int p] h Post := by
  show Go g mX2_stands 0 [_, _] [] _ _ _
  refine ok_iload_n dX2_stands_0 rfl rfl ?_
  refine ok_if_lt (tgt := 16) dX2_stands_1 (by decide) (fun c_1 => ?_) (fun c_1 => ?_)
  · refine ok_iconst (v := 0) dX2_stands_16 (by decide) ?_
    refine ok_ireturn dX2_stands_17 rfl rfl ?_
    first | exact K | (simp only [c_1, ↓reduceIte] at K; exact K)
  · refine ok_iload_n dX2_stands_4 rfl rfl ?_
    refine ok_aload_n dX2_stands_5 rfl rfl ?_
    refine ok_getI dX2_stands_6 f_X2_31 (by first | exact is_lit hv (by decide) rfl | exact is_sq hv hq | exact is_row hv hq | exact is_pn hv hq (by assumption) | assumption) rfl ?_
    refine ok_icmp_ge (tgt := 16) dX2_stands_9 (by decide) (fun c_9 => ?_) (fun c_9 => ?_)
    · refine ok_iconst (v := 0) dX2_stands_16 (by decide) ?_
      refine ok_ireturn dX2_stands_17 rfl rfl ?_
      first | exact K | (simp only [c_1, c_9, ↓reduceIte] at K; exact K)
    · refine ok_iconst (v := 1) dX2_stands_12 (by decide) ?_
      refine ok_goto (tgt := 17) dX2_stands_13 (by decide) ?_
      refine ok_ireturn dX2_stands_17 rfl rfl ?_
      first | exact K | (simp only [c_1, c_9, ↓reduceIte] at K; exact K)
theorem sp_X2_thinks {g : GG} {h : Hp} {Post : Option Value → Hp → Prop} (hv : Inv h) {q : Nat} (hq : Sqr q) {j : Nat} (hj : j < 10) (K : Post (some (.int (if hI h q 2 = 0 then pf h q j 3 else if hI h q 0 + hI h q 3 ≤ 0 then 0 else hI h q 0 + hI h q 3))) h) : Sp g mX2_thinks [.ref q, .int (nI j)] h Post := by
  show Go g mX2_thinks 0 [_, _, _] [] _ _ _
  refine ok_aload_n dX2_thinks_0 rfl rfl ?_
  refine ok_getI dX2_thinks_1 f_X2_18 (by first | exact is_lit hv (by decide) rfl | exact is_sq hv hq | exact is_row hv hq | exact is_pn hv hq (by assumption) | assumption) rfl ?_
  refine ok_if_ne (tgt := 17) dX2_thinks_4 (by decide) (fun c_4 => ?_) (fun c_4 => ?_)
  · refine ok_aload_n dX2_thinks_17 rfl rfl ?_
    refine ok_getI dX2_thinks_18 f_X2_9 (by first | exact is_lit hv (by decide) rfl | exact is_sq hv hq | exact is_row hv hq | exact is_pn hv hq (by assumption) | assumption) rfl ?_
    refine ok_aload_n dX2_thinks_21 rfl rfl ?_
    refine ok_getI dX2_thinks_22 f_X2_22 (by first | exact is_lit hv (by decide) rfl | exact is_sq hv hq | exact is_row hv hq | exact is_pn hv hq (by assumption) | assumption) rfl ?_
    refine ok_iadd dX2_thinks_25 ?_
    refine ok_istore_n (lo' := [_, _, _]) dX2_thinks_26 rfl (Nat.le_of_ble_eq_true rfl) rfl rfl ?_
    refine ok_iload_n dX2_thinks_27 rfl rfl ?_
    refine ok_if_le (tgt := 35) dX2_thinks_28 (by decide) (fun c_28 => ?_) (fun c_28 => ?_)
    · refine ok_iconst (v := 0) dX2_thinks_35 (by decide) ?_
      refine ok_ireturn dX2_thinks_36 rfl rfl ?_
      first | exact K | (simp only [c_4, c_28, ↓reduceIte] at K; exact K)
    · refine ok_iload_n dX2_thinks_31 rfl rfl ?_
      refine ok_goto (tgt := 36) dX2_thinks_32 (by decide) ?_
      refine ok_ireturn dX2_thinks_36 rfl rfl ?_
      first | exact K | (simp only [c_4, c_28, ↓reduceIte] at K; exact K)
  · refine ok_aload_n dX2_thinks_7 rfl rfl ?_
    refine ok_getR dX2_thinks_8 f_X2_36 (by first | exact is_lit hv (by decide) rfl | exact is_sq hv hq | exact is_row hv hq | exact is_pn hv hq (by assumption) | assumption) rfl (by first | exact rf hv rfl | exact rf_row hv hq | assumption) ?_
    refine ok_iload_n dX2_thinks_11 rfl rfl ?_
    refine ok_aaloadP dX2_thinks_12 (by first | exact is_lit hv (by decide) rfl | exact is_sq hv hq | exact is_row hv hq | exact is_pn hv hq (by assumption) | assumption) (by first | decide | exact vp_in_nI (by assumption) (by decide) | exact vp_in_nI (by omega) (by decide) | assumption) (by first | exact rf_nI hv hq (by assumption) | assumption) ?_
    refine ok_getI dX2_thinks_13 f_X2_53 (by first | exact is_lit hv (by decide) rfl | exact is_sq hv hq | exact is_row hv hq | exact is_pn hv hq (by assumption) | assumption) rfl ?_
    refine ok_ireturn dX2_thinks_16 rfl rfl ?_
    first | exact K | (simp only [c_4, ↓reduceIte] at K; exact K)
theorem sp_X0_gainBy {g : GG} {h : Hp} {Post : Option Value → Hp → Prop} {r : Nat} (hr : Is h r 0 0) (w a : Int32) (K : Post (some (.int ((if w = 0 then 0 else hI h r 2) - a))) h) : Sp g mX0_gainBy [.ref r, .int w, .int a] h Post := by
  show Go g mX0_gainBy 0 [_, _, _] [] _ _ _
  refine ok_iload_n dX0_gainBy_0 rfl rfl ?_
  refine ok_if_eq (tgt := 11) dX0_gainBy_1 (by decide) (fun c_1 => ?_) (fun c_1 => ?_)
  · refine ok_iconst (v := 0) dX0_gainBy_11 (by decide) ?_
    refine ok_iload_n dX0_gainBy_12 rfl rfl ?_
    refine ok_isub dX0_gainBy_13 ?_
    refine ok_ireturn dX0_gainBy_14 rfl rfl ?_
    first | exact K | (simp only [c_1, ↓reduceIte] at K; exact K)
  · refine ok_aload_n dX0_gainBy_4 rfl rfl ?_
    refine ok_getI dX0_gainBy_5 f_X0_16 (by first | exact is_lit hv (by decide) rfl | exact is_sq hv hq | exact is_row hv hq | exact is_pn hv hq (by assumption) | assumption) rfl ?_
    refine ok_goto (tgt := 12) dX0_gainBy_8 (by decide) ?_
    refine ok_iload_n dX0_gainBy_12 rfl rfl ?_
    refine ok_isub dX0_gainBy_13 ?_
    refine ok_ireturn dX0_gainBy_14 rfl rfl ?_
    first | exact K | (simp only [c_1, ↓reduceIte] at K; exact K)
