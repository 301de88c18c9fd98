/-! ===== the reference: gains, an hour ===== -/
/-- what was thrown last stands in the reference -/
def Tw (h : Hp) (n : Nat) (r : Nat → Int32) (who c : Int32) : Prop := hI h 49 4 = w_will r n who c ∧ ∀ p, p < n → hI h 53 p = w_thr r n who c p
theorem ro_sp {r : Nat → Int32} {p f q e : Nat} {v : Int32} (hf : f < 7) (he : e < 7) : ro (w_set r (7 + 7 * p + f) v) q e = if q = p ∧ e = f then v else ro r q e := by
  unfold ro w_set
  by_cases c : q = p ∧ e = f
  · rw [if_pos c, if_pos (by omega)]
  · rw [if_neg c, if_neg (by omega)]
theorem RM.congr {a : Nat} {h : Hp} {n : Nat} {r r' : Nat → Int32} (R : RM a h n r) (h1 : ∀ k, k < 7 → r k = r' k) (h2 : ∀ p f, p < n → f < 7 → ro r p f = ro r' p f) : RM a h n r' := ⟨R.1, (h1 0 (by decide)).symm.trans R.2.1, fun k hk => (R.2.2.1 k hk).trans (h1 k hk), fun p f hp hf => (R.2.2.2 p f hp hf).trans (h2 p f hp hf)⟩
theorem sp_X5_gainOf {g : GG} {h : Hp} {Post : Option Value → Hp → Prop} (hv : Inv h) {n : Nat} {r : Nat → Int32} (R : RM 50 h n r) {who c : Int32} (W : Tw h n r who c) {p : Nat} (hp : p < n) (K : Post (some (.int (w_gain r n who c p))) h) : Sp g mX5_gainOf [.ref 49, .int (nI p)] h Post := by
  show Go g mX5_gainOf 0 [_, _] [] _ _ _
  have hn := R.1
  unfold w_gain at K
  refine ok_iload_n dX5_gainOf_0 rfl rfl ?_
  refine ok_aload_n dX5_gainOf_1 rfl rfl ?_
  refine ok_getI dX5_gainOf_2 f_X5_104 (by first | exact is_lit hv (by decide) rfl | exact is_sq hv hq | exact is_row hv hq | exact is_pn hv hq (by assumption) | assumption) rfl ?_
  rw [W.1]
  refine ok_icmp_ge (tgt := 17) dX5_gainOf_5 (by decide) (fun c_5 => ?_) (fun c_5 => ?_)
  · refine ok_iconst (v := 0) dX5_gainOf_17 (by decide) ?_
    refine ok_aload_n dX5_gainOf_18 rfl rfl ?_
    refine ok_getR dX5_gainOf_19 f_X5_19 (by first | exact is_lit hv (by decide) rfl | exact is_sq hv hq | exact is_row hv hq | exact is_pn hv hq (by assumption) | assumption) rfl (by first | exact rf hv rfl | exact rf_row hv hq | assumption) ?_
    refine ok_iload_n dX5_gainOf_22 rfl rfl ?_
    refine ok_iaload dX5_gainOf_23 (is_lit hv (by decide) rfl) (vp_in_nI (by omega) (by decide)) ?_
    rw [nI_clamp (by omega), W.2 p hp]
    refine ok_isub dX5_gainOf_24 ?_
    refine ok_ireturn dX5_gainOf_25 rfl rfl ?_
    first | (rw [if_neg (i_nlt.mpr c_5)] at K; exact K) | (rw [if_pos (i_nle.mp c_5)] at K; exact K)
  · refine ok_aload_n dX5_gainOf_8 rfl rfl ?_
    refine ok_iload_n dX5_gainOf_9 rfl rfl ?_
    refine ok_iconst (v := 2) dX5_gainOf_10 (by decide) ?_
    refine ok_callV (M' := mX5_its) (b' := (0, 0)) (As := [_, _]) (cx := 5) dX5_gainOf_11 iX5_its w_871 (by decide) rfl (by first | exact is_lit hv (by decide) rfl | exact is_sq hv hq | exact is_row hv hq | exact is_pn hv hq (by assumption) | assumption) rfl (Nat.le_of_ble_eq_true rfl) ⟨Nat.le_of_ble_eq_true rfl, Nat.le_of_ble_eq_true rfl⟩ (Nat.le_of_ble_eq_true rfl) rfl rfl ?_
    refine sp_X5_its hv R (f := 2) hp (by decide) ?_
    refine ok_goto (tgt := 18) dX5_gainOf_14 (by decide) ?_
    refine ok_aload_n dX5_gainOf_18 rfl rfl ?_
    refine ok_getR dX5_gainOf_19 f_X5_19 (by first | exact is_lit hv (by decide) rfl | exact is_sq hv hq | exact is_row hv hq | exact is_pn hv hq (by assumption) | assumption) rfl (by first | exact rf hv rfl | exact rf_row hv hq | assumption) ?_
    refine ok_iload_n dX5_gainOf_22 rfl rfl ?_
    refine ok_iaload dX5_gainOf_23 (is_lit hv (by decide) rfl) (vp_in_nI (by omega) (by decide)) ?_
    rw [nI_clamp (by omega), W.2 p hp]
    refine ok_isub dX5_gainOf_24 ?_
    refine ok_ireturn dX5_gainOf_25 rfl rfl ?_
    first | (rw [if_neg (i_nlt.mpr c_5)] at K; exact K) | (rw [if_pos (i_nle.mp c_5)] at K; exact K)
theorem sp_X5_gainWith {g : GG} {h : Hp} {Post : Option Value → Hp → Prop} (hv : Inv h) {n : Nat} {r : Nat → Int32} (R : RM 50 h n r) (G : RG r n) {p : Nat} (hp : p < n) (c : Int32) (K : ∀ h', TM h h' → Post (some (.int (w_gain r n (nI p) c p))) h') : Sp g mX5_gainWith [.ref 49, .int (nI p), .int c] h Post := by
  show Go g mX5_gainWith 0 [_, _, _] [] _ _ _
  refine ok_aload_n dX5_gainWith_0 rfl rfl ?_
  refine ok_iload_n dX5_gainWith_1 rfl rfl ?_
  refine ok_iload_n dX5_gainWith_2 rfl rfl ?_
  refine ok_callV (M' := mX5_throwAll) (b' := (0, 0)) (As := [_, _]) (cx := 5) dX5_gainWith_3 iX5_throwAll w_943 (by decide) rfl (by first | exact is_lit hv (by decide) rfl | exact is_sq hv hq | exact is_row hv hq | exact is_pn hv hq (by assumption) | assumption) rfl (Nat.le_of_ble_eq_true rfl) ⟨Nat.le_of_ble_eq_true rfl, Nat.le_of_ble_eq_true rfl⟩ (Nat.le_of_ble_eq_true rfl) rfl rfl ?_
  refine sp_X5_throwAll hv R G (nI p) (c) (fun h1 M1 w1 t1 => ?_)
  have hv := M1.1.inv hv
  have R := M1.rm R
  refine ok_aload_n dX5_gainWith_6 rfl rfl ?_
  refine ok_iload_n dX5_gainWith_7 rfl rfl ?_
  refine ok_callV (M' := mX5_gainOf) (b' := (0, 0)) (As := [_]) (cx := 5) dX5_gainWith_8 iX5_gainOf w_976 (by decide) rfl (by first | exact is_lit hv (by decide) rfl | exact is_sq hv hq | exact is_row hv hq | exact is_pn hv hq (by assumption) | assumption) rfl (Nat.le_of_ble_eq_true rfl) ⟨Nat.le_of_ble_eq_true rfl, Nat.le_of_ble_eq_true rfl⟩ (Nat.le_of_ble_eq_true rfl) rfl rfl ?_
  refine sp_X5_gainOf hv R ⟨w1, t1⟩ hp ?_
  refine ok_ireturn dX5_gainWith_11 rfl rfl ?_
  exact K h1 M1
theorem sp_X5_gainNow {g : GG} {h : Hp} {Post : Option Value → Hp → Prop} (hv : Inv h) {n : Nat} {r : Nat → Int32} (R : RM 50 h n r) (G : RG r n) {p : Nat} (hp : p < n) (K : ∀ h', TM h h' → Post (some (.int (w_gain r n (-1) 0 p))) h') : Sp g mX5_gainNow [.ref 49, .int (nI p)] h Post := by
  show Go g mX5_gainNow 0 [_, _] [] _ _ _
  refine ok_aload_n dX5_gainNow_0 rfl rfl ?_
  refine ok_iconst (v := -1) dX5_gainNow_1 (by decide) ?_
  refine ok_iconst (v := 0) dX5_gainNow_2 (by decide) ?_
  refine ok_callV (M' := mX5_throwAll) (b' := (0, 0)) (As := [_, _]) (cx := 5) dX5_gainNow_3 iX5_throwAll w_943 (by decide) rfl (by first | exact is_lit hv (by decide) rfl | exact is_sq hv hq | exact is_row hv hq | exact is_pn hv hq (by assumption) | assumption) rfl (Nat.le_of_ble_eq_true rfl) ⟨Nat.le_of_ble_eq_true rfl, Nat.le_of_ble_eq_true rfl⟩ (Nat.le_of_ble_eq_true rfl) rfl rfl ?_
  refine sp_X5_throwAll hv R G (-1) (0) (fun h1 M1 w1 t1 => ?_)
  have hv := M1.1.inv hv
  have R := M1.rm R
  refine ok_aload_n dX5_gainNow_6 rfl rfl ?_
  refine ok_iload_n dX5_gainNow_7 rfl rfl ?_
  refine ok_callV (M' := mX5_gainOf) (b' := (0, 0)) (As := [_]) (cx := 5) dX5_gainNow_8 iX5_gainOf w_976 (by decide) rfl (by first | exact is_lit hv (by decide) rfl | exact is_sq hv hq | exact is_row hv hq | exact is_pn hv hq (by assumption) | assumption) rfl (Nat.le_of_ble_eq_true rfl) ⟨Nat.le_of_ble_eq_true rfl, Nat.le_of_ble_eq_true rfl⟩ (Nat.le_of_ble_eq_true rfl) rfl rfl ?_
  refine sp_X5_gainOf hv R ⟨w1, t1⟩ hp ?_
  refine ok_ireturn dX5_gainNow_11 rfl rfl ?_
  exact K h1 M1
theorem lp_X5_gainOfAll_10 {g : GG} {h : Hp} {Post : Option Value → Hp → Prop} (hv : Inv h) {n : Nat} {r : Nat → Int32} (R : RM 50 h n r) (W : Tw h n r (-1) 0) (K : Post (some (.int (w_sum (w_gain r n (-1) 0) n))) h) : ∀ (k i : Nat), i + k = n → Go g mX5_gainOfAll 10 [some (.ref 49), some (.int (w_sum (w_gain r n (-1) 0) i)), some (.int (nI i))] [] h (0, 0) Post := by
  intro k
  induction k with
  | zero =>
    intro i  hik 
    obtain rfl : i = n := by omega
    have hn := R.1
    refine ok_iload_n dX5_gainOfAll_10 rfl rfl ?_
    refine ok_aload_n dX5_gainOfAll_11 rfl rfl ?_
    refine ok_getR dX5_gainOfAll_12 f_X5_7 (by first | exact is_lit hv (by decide) rfl | exact is_sq hv hq | exact is_row hv hq | exact is_pn hv hq (by assumption) | assumption) rfl (by first | exact rf hv rfl | exact rf_row hv hq | assumption) ?_
    refine ok_iconst (v := 0) dX5_gainOfAll_15 (by decide) ?_
    refine ok_iaload dX5_gainOfAll_16 (is_lit hv (by decide) rfl) (by unfold vp_in; decide) ?_
    rw [show hI h 50 (Int32.toNatClampNeg 0) = r 0 from R.2.2.1 0 (by decide), R.2.1]
    refine ok_icmp_ge (tgt := 34) dX5_gainOfAll_17 (by decide) (fun _ => ?_) (fun c9 => absurd (nI_le (Nat.le_refl _) (by omega)) c9)
    refine ok_iload_n dX5_gainOfAll_34 rfl rfl ?_
    refine ok_ireturn dX5_gainOfAll_35 rfl rfl ?_
    exact K
  | succ k ih =>
    intro i  hik 
    have hi : i < n := by omega
    have hn := R.1
    refine ok_iload_n dX5_gainOfAll_10 rfl rfl ?_
    refine ok_aload_n dX5_gainOfAll_11 rfl rfl ?_
    refine ok_getR dX5_gainOfAll_12 f_X5_7 (by first | exact is_lit hv (by decide) rfl | exact is_sq hv hq | exact is_row hv hq | exact is_pn hv hq (by assumption) | assumption) rfl (by first | exact rf hv rfl | exact rf_row hv hq | assumption) ?_
    refine ok_iconst (v := 0) dX5_gainOfAll_15 (by decide) ?_
    refine ok_iaload dX5_gainOfAll_16 (is_lit hv (by decide) rfl) (by unfold vp_in; decide) ?_
    rw [show hI h 50 (Int32.toNatClampNeg 0) = r 0 from R.2.2.1 0 (by decide), R.2.1]
    refine ok_icmp_ge (tgt := 34) dX5_gainOfAll_17 (by decide) (fun c9 => absurd c9 (nI_ge hi (by omega))) (fun _ => ?_)
    refine ok_iload_n dX5_gainOfAll_20 rfl rfl ?_
    refine ok_aload_n dX5_gainOfAll_21 rfl rfl ?_
    refine ok_iload_n dX5_gainOfAll_22 rfl rfl ?_
    refine ok_callV (M' := mX5_gainOf) (b' := (0, 0)) (As := [_]) (cx := 5) dX5_gainOfAll_23 iX5_gainOf w_976 (by decide) rfl (by first | exact is_lit hv (by decide) rfl | exact is_sq hv hq | exact is_row hv hq | exact is_pn hv hq (by assumption) | assumption) rfl (Nat.le_of_ble_eq_true rfl) ⟨Nat.le_of_ble_eq_true rfl, Nat.le_of_ble_eq_true rfl⟩ (Nat.le_of_ble_eq_true rfl) rfl rfl ?_
    refine sp_X5_gainOf hv R W hi ?_
    refine ok_iadd dX5_gainOfAll_26 ?_
    refine ok_istore_n (lo' := [_, _, _]) dX5_gainOfAll_27 rfl (Nat.le_of_ble_eq_true rfl) rfl rfl ?_
    refine ok_iinc (v := _ + 1) (lo' := [_, _, _]) dX5_gainOfAll_28 rfl rfl (Nat.le_of_ble_eq_true rfl) rfl rfl ?_
    refine ok_goto (tgt := 10) dX5_gainOfAll_31 (by decide) ?_
    rw [nI_1]
    exact ih (i + 1) (by omega)
theorem sp_X5_gainOfAll {g : GG} {h : Hp} {Post : Option Value → Hp → Prop} (hv : Inv h) {n : Nat} {r : Nat → Int32} (R : RM 50 h n r) (G : RG r n) (K : ∀ h', TM h h' → Post (some (.int (w_sum (w_gain r n (-1) 0) n))) h') : Sp g mX5_gainOfAll [.ref 49] h Post := by
  show Go g mX5_gainOfAll 0 [_, _, _] [] _ _ _
  refine ok_aload_n dX5_gainOfAll_0 rfl rfl ?_
  refine ok_iconst (v := -1) dX5_gainOfAll_1 (by decide) ?_
  refine ok_iconst (v := 0) dX5_gainOfAll_2 (by decide) ?_
  refine ok_callV (M' := mX5_throwAll) (b' := (0, 0)) (As := [_, _]) (cx := 5) dX5_gainOfAll_3 iX5_throwAll w_943 (by decide) rfl (by first | exact is_lit hv (by decide) rfl | exact is_sq hv hq | exact is_row hv hq | exact is_pn hv hq (by assumption) | assumption) rfl (Nat.le_of_ble_eq_true rfl) ⟨Nat.le_of_ble_eq_true rfl, Nat.le_of_ble_eq_true rfl⟩ (Nat.le_of_ble_eq_true rfl) rfl rfl ?_
  refine sp_X5_throwAll hv R G (-1) (0) (fun h1 M1 w1 t1 => ?_)
  have hv := M1.1.inv hv
  have R := M1.rm R
  refine ok_iconst (v := 0) dX5_gainOfAll_6 (by decide) ?_
  refine ok_istore_n (lo' := [_, _, _]) dX5_gainOfAll_7 rfl (Nat.le_of_ble_eq_true rfl) rfl rfl ?_
  refine ok_iconst (v := 0) dX5_gainOfAll_8 (by decide) ?_
  refine ok_istore_n (lo' := [_, _, _]) dX5_gainOfAll_9 rfl (Nat.le_of_ble_eq_true rfl) rfl rfl ?_
  exact lp_X5_gainOfAll_10 hv R ⟨w1, t1⟩ (K h1 M1) n 0 (by omega)
theorem lp_X5_sumOf_4 {g : GG} {h : Hp} {Post : Option Value → Hp → Prop} (hv : Inv h) {n : Nat} {r : Nat → Int32} (R : RM 50 h n r) {f : Nat} (hf : f < 7) (K : Post (some (.int (w_sum (fun p => ro r p f) n))) h) : ∀ (k i : Nat), i + k = n → Go g mX5_sumOf 4 [some (.ref 49), some (.int (nI f)), some (.int (w_sum (fun p => ro r p f) i)), some (.int (nI i))] [] h (0, 0) Post := by
  intro k
  induction k with
  | zero =>
    intro i  hik 
    obtain rfl : i = n := by omega
    have hn := R.1
    refine ok_iload_n dX5_sumOf_4 rfl rfl ?_
    refine ok_aload_n dX5_sumOf_5 rfl rfl ?_
    refine ok_getR dX5_sumOf_6 f_X5_7 (by first | exact is_lit hv (by decide) rfl | exact is_sq hv hq | exact is_row hv hq | exact is_pn hv hq (by assumption) | assumption) rfl (by first | exact rf hv rfl | exact rf_row hv hq | assumption) ?_
    refine ok_iconst (v := 0) dX5_sumOf_9 (by decide) ?_
    refine ok_iaload dX5_sumOf_10 (is_lit hv (by decide) rfl) (by unfold vp_in; decide) ?_
    rw [show hI h 50 (Int32.toNatClampNeg 0) = r 0 from R.2.2.1 0 (by decide), R.2.1]
    refine ok_icmp_ge (tgt := 29) dX5_sumOf_11 (by decide) (fun _ => ?_) (fun c9 => absurd (nI_le (Nat.le_refl _) (by omega)) c9)
    refine ok_iload_n dX5_sumOf_29 rfl rfl ?_
    refine ok_ireturn dX5_sumOf_30 rfl rfl ?_
    exact K
  | succ k ih =>
    intro i  hik 
    have hi : i < n := by omega
    have hn := R.1
    refine ok_iload_n dX5_sumOf_4 rfl rfl ?_
    refine ok_aload_n dX5_sumOf_5 rfl rfl ?_
    refine ok_getR dX5_sumOf_6 f_X5_7 (by first | exact is_lit hv (by decide) rfl | exact is_sq hv hq | exact is_row hv hq | exact is_pn hv hq (by assumption) | assumption) rfl (by first | exact rf hv rfl | exact rf_row hv hq | assumption) ?_
    refine ok_iconst (v := 0) dX5_sumOf_9 (by decide) ?_
    refine ok_iaload dX5_sumOf_10 (is_lit hv (by decide) rfl) (by unfold vp_in; decide) ?_
    rw [show hI h 50 (Int32.toNatClampNeg 0) = r 0 from R.2.2.1 0 (by decide), R.2.1]
    refine ok_icmp_ge (tgt := 29) dX5_sumOf_11 (by decide) (fun c9 => absurd c9 (nI_ge hi (by omega))) (fun _ => ?_)
    refine ok_iload_n dX5_sumOf_14 rfl rfl ?_
    refine ok_aload_n dX5_sumOf_15 rfl rfl ?_
    refine ok_iload_n dX5_sumOf_16 rfl rfl ?_
    refine ok_iload_n dX5_sumOf_17 rfl rfl ?_
    refine ok_callV (M' := mX5_its) (b' := (0, 0)) (As := [_, _]) (cx := 5) dX5_sumOf_18 iX5_its w_871 (by decide) rfl (by first | exact is_lit hv (by decide) rfl | exact is_sq hv hq | exact is_row hv hq | exact is_pn hv hq (by assumption) | assumption) rfl (Nat.le_of_ble_eq_true rfl) ⟨Nat.le_of_ble_eq_true rfl, Nat.le_of_ble_eq_true rfl⟩ (Nat.le_of_ble_eq_true rfl) rfl rfl ?_
    refine sp_X5_its hv R hi hf ?_
    refine ok_iadd dX5_sumOf_21 ?_
    refine ok_istore_n (lo' := [_, _, _, _]) dX5_sumOf_22 rfl (Nat.le_of_ble_eq_true rfl) rfl rfl ?_
    refine ok_iinc (v := _ + 1) (lo' := [_, _, _, _]) dX5_sumOf_23 rfl rfl (Nat.le_of_ble_eq_true rfl) rfl rfl ?_
    refine ok_goto (tgt := 4) dX5_sumOf_26 (by decide) ?_
    rw [nI_1]
    exact ih (i + 1) (by omega)
theorem sp_X5_sumOf {g : GG} {h : Hp} {Post : Option Value → Hp → Prop} (hv : Inv h) {n : Nat} {r : Nat → Int32} (R : RM 50 h n r) {f : Nat} (hf : f < 7) (K : Post (some (.int (w_sum (fun p => ro r p f) n))) h) : Sp g mX5_sumOf [.ref 49, .int (nI f)] h Post := by
  show Go g mX5_sumOf 0 [_, _, _, _] [] _ _ _
  refine ok_iconst (v := 0) dX5_sumOf_0 (by decide) ?_
  refine ok_istore_n (lo' := [_, _, _, _]) dX5_sumOf_1 rfl (Nat.le_of_ble_eq_true rfl) rfl rfl ?_
  refine ok_iconst (v := 0) dX5_sumOf_2 (by decide) ?_
  refine ok_istore_n (lo' := [_, _, _, _]) dX5_sumOf_3 rfl (Nat.le_of_ble_eq_true rfl) rfl rfl ?_
  exact lp_X5_sumOf_4 hv R hf K n 0 (by omega)
/-- a row in which the first i have had their hour -/
def w_hp (r : Nat → Int32) (n i : Nat) : Nat → Int32 := mkr r (fun p f => if p < i then ro (w_hour r n (-1) 0) p f else ro r p f)
theorem hp_0 {h : Hp} {n : Nat} {r : Nat → Int32} (R : RM 50 h n r) : RM 50 h n (w_hp r n 0) := R.congr (fun k hk => (mk_s hk).symm) (fun p f hp hf => by rw [w_hp, ro_mk hf, if_neg (by omega)])
theorem ro_hp {r : Nat → Int32} {n i f : Nat} (hf : f < 7) : ro (w_hp r n i) i f = ro r i f := by rw [w_hp, ro_mk hf, if_neg (by omega)]
theorem hp_s {h : Hp} {n i : Nat} {r : Nat → Int32} {a b x : Int32} {w : Nat} (R : RM 50 h n (w_set (w_set (w_set (w_hp r n i) (7 + 7 * i + 4) a) (7 + 7 * i + 1) b) (7 + 7 * i + w) x)) (ha : a = w_thr r n (-1) 0 i) (hb : b = cut (ro r i 1 - w_thr r n (-1) 0 i) 999)
    (hw : (nI i < w_will r n (-1) 0 ∧ w = 5 ∧ x = cut (ro r i 5 + 1) 999999) ∨ (¬ nI i < w_will r n (-1) 0 ∧ w = 6 ∧ x = cut (ro r i 6 + 1) 999999)) : RM 50 h n (w_hp r n (i + 1)) := by
  have hw7 : 5 ≤ w ∧ w < 7 := by rcases hw with e | e <;> omega
  refine R.congr (fun k hk => ?_) (fun p f hp hf => ?_)
  · unfold w_set
    rw [if_neg (by omega), if_neg (by omega), if_neg (by omega), w_hp, mk_s hk, w_hp, mk_s hk]
  · rw [ro_sp hw7.2 hf, ro_sp (by decide) hf, ro_sp (by decide) hf, w_hp, ro_mk hf, w_hp, ro_mk hf]
    by_cases e : p = i
    · subst e
      rw [if_pos (show p < p + 1 by omega), if_neg (show ¬ p < p by omega), w_hour, ro_mk hf]
      rcases hw with ⟨c, rfl, rfl⟩ | ⟨c, rfl, rfl⟩
      · rcases (show f = 0 ∨ f = 1 ∨ f = 2 ∨ f = 3 ∨ f = 4 ∨ f = 5 ∨ f = 6 by omega) with rfl | rfl | rfl | rfl | rfl | rfl | rfl <;> simp [ha, hb, c]
      · rcases (show f = 0 ∨ f = 1 ∨ f = 2 ∨ f = 3 ∨ f = 4 ∨ f = 5 ∨ f = 6 by omega) with rfl | rfl | rfl | rfl | rfl | rfl | rfl <;> simp [ha, hb, c]
    · rw [if_neg (fun c => e c.1), if_neg (fun c => e c.1), if_neg (fun c => e c.1)]
      by_cases e2 : p < i
      · rw [if_pos e2, if_pos (by omega)]
      · rw [if_neg e2, if_neg (by omega)]
theorem hp_n {h : Hp} {n : Nat} {r : Nat → Int32} (R : RM 50 h n (w_set (w_set (w_set (w_hp r n n) 6 (w_will r n (-1) 0)) 1 0) 5 (r 5 + 1))) : RM 50 h n (w_hour r n (-1) 0) := by
  refine R.congr (fun k hk => ?_) (fun p f hp hf => ?_)
  · rw [w_hour, mk_s hk]
    rcases (show k = 0 ∨ k = 1 ∨ k = 2 ∨ k = 3 ∨ k = 4 ∨ k = 5 ∨ k = 6 by omega) with rfl | rfl | rfl | rfl | rfl | rfl | rfl <;> simp [w_set, w_hp, mkr]
  · rw [ro_set (by decide), ro_set (by decide), ro_set (by decide), w_hp, ro_mk hf, if_pos hp]
theorem fill_s {w : Int32} {i : Nat} : w_fill w (i + 1) = w_fill w i + (if nI i < w then 1 else 0) := rfl
theorem lp_X5_anHour_10 {g : GG} {h0 : Hp} {Post : Option Value → Hp → Prop} (hv0 : Inv h0) {n : Nat} {r : Nat → Int32} (hn : n ≤ 10) (K : ∀ h', QM h0 h' → RM 50 h' n (w_hour r n (-1) 0) → Post (some (.int (w_fill (w_will r n (-1) 0) n))) h') : ∀ (d i : Nat) (h : Hp) (x3 x4 : Option Value), i + d = n → QM h0 h → Tw h n r (-1) 0 → RM 50 h n (w_hp r n i) → Go g mX5_anHour 10 [some (.ref 49), some (.int (w_fill (w_will r n (-1) 0) i)), some (.int (nI i)), x3, x4] [] h (0, 0) Post := by
  intro d
  induction d with
  | zero =>
    intro i h x3 x4 hd M W R
    obtain rfl : i = n := by omega
    have hv := M.inv hv0
    refine ok_iload_n dX5_anHour_10 rfl rfl ?_
    refine ok_aload_n dX5_anHour_11 rfl rfl ?_
    refine ok_getR dX5_anHour_12 f_X5_7 (by first | exact is_lit hv (by decide) rfl | exact is_sq hv hq | exact is_row hv hq | exact is_pn hv hq (by assumption) | assumption) rfl (by first | exact rf hv rfl | exact rf_row hv hq | assumption) ?_
    refine ok_iconst (v := 0) dX5_anHour_15 (by decide) ?_
    refine ok_iaload dX5_anHour_16 (is_lit hv (by decide) rfl) (by unfold vp_in; decide) ?_
    rw [show hI h 50 (Int32.toNatClampNeg 0) = w_hp r i i 0 from R.2.2.1 0 (by decide), R.2.1]
    refine ok_icmp_ge (tgt := 122) dX5_anHour_17 (by decide) (fun _ => ?_) (fun c9 => absurd (nI_le (Nat.le_refl _) (by omega)) c9)
    refine ok_aload_n dX5_anHour_122 rfl rfl ?_
    refine ok_getR dX5_anHour_123 f_X5_7 (by first | exact is_lit hv (by decide) rfl | exact is_sq hv hq | exact is_row hv hq | exact is_pn hv hq (by assumption) | assumption) rfl (by first | exact rf hv rfl | exact rf_row hv hq | assumption) ?_
    refine ok_bipush (v := 6) dX5_anHour_126 (by decide) ?_
    refine ok_aload_n dX5_anHour_128 rfl rfl ?_
    refine ok_getI dX5_anHour_129 f_X5_104 (by first | exact is_lit hv (by decide) rfl | exact is_sq hv hq | exact is_row hv hq | exact is_pn hv hq (by assumption) | assumption) rfl ?_
    refine ok_iastore dX5_anHour_132 (is_lit hv (by decide) rfl) (by unfold vp_in; decide) ?_
    refine ok_aload_n dX5_anHour_133 rfl rfl ?_
    refine ok_getR dX5_anHour_134 f_X5_7 (by first | exact is_lit hv (by decide) rfl | exact is_sq hv hq | exact is_row hv hq | exact is_pn hv hq (by assumption) | assumption) rfl (by first | exact rf hv rfl | exact rf_row hv hq | assumption) ?_
    refine ok_iconst (v := 1) dX5_anHour_137 (by decide) ?_
    refine ok_iconst (v := 0) dX5_anHour_138 (by decide) ?_
    refine ok_iastore dX5_anHour_139 (is_lit hv (by decide) rfl) (by unfold vp_in; decide) ?_
    refine ok_aload_n dX5_anHour_140 rfl rfl ?_
    refine ok_getR dX5_anHour_141 f_X5_7 (by first | exact is_lit hv (by decide) rfl | exact is_sq hv hq | exact is_row hv hq | exact is_pn hv hq (by assumption) | assumption) rfl (by first | exact rf hv rfl | exact rf_row hv hq | assumption) ?_
    refine ok_iconst (v := 5) dX5_anHour_144 (by decide) ?_
    refine ok_dup2 dX5_anHour_145 rfl rfl ?_
    refine ok_iaload dX5_anHour_146 (is_lit hv (by decide) rfl) (by unfold vp_in; decide) ?_
    refine ok_iconst (v := 1) dX5_anHour_147 (by decide) ?_
    refine ok_iadd dX5_anHour_148 ?_
    refine ok_iastore dX5_anHour_149 (is_lit hv (by decide) rfl) (by unfold vp_in; decide) ?_
    refine ok_iload_n dX5_anHour_150 rfl rfl ?_
    refine ok_ireturn dX5_anHour_151 rfl rfl ?_
    rw [show hI (uI (uI h 50 (Int32.toNatClampNeg 6) (hI h 49 4)) 50 (Int32.toNatClampNeg 1) 0) 50 (Int32.toNatClampNeg 5) = r 5 from (at_un (by decide)).trans ((at_un (by decide)).trans ((R.2.2.1 5 (by decide)).trans (mk_s (by decide)))), W.1]
    exact K _ (((M.u (by omega)).u (by omega)).u (by omega)) (hp_n (((R.u (by decide)).u (by decide)).u (by decide)))
  | succ d ih =>
    intro i h x3 x4 hd M W R
    have hv := M.inv hv0
    have hi : i < n := by omega
    have h10 : i < 10 := by omega
    by_cases cw : nI i < w_will r n (-1) 0
    · refine ok_iload_n dX5_anHour_10 rfl rfl ?_
      refine ok_aload_n dX5_anHour_11 rfl rfl ?_
      refine ok_getR dX5_anHour_12 f_X5_7 (by first | exact is_lit hv (by decide) rfl | exact is_sq hv hq | exact is_row hv hq | exact is_pn hv hq (by assumption) | assumption) rfl (by first | exact rf hv rfl | exact rf_row hv hq | assumption) ?_
      refine ok_iconst (v := 0) dX5_anHour_15 (by decide) ?_
      refine ok_iaload dX5_anHour_16 (is_lit hv (by decide) rfl) (by unfold vp_in; decide) ?_
      rw [show hI h 50 (Int32.toNatClampNeg 0) = w_hp r n i 0 from R.2.2.1 0 (by decide), R.2.1]
      refine ok_icmp_ge (tgt := 122) dX5_anHour_17 (by decide) (fun c9 => absurd c9 (nI_ge hi (by omega))) (fun _ => ?_)
      refine ok_iload_n dX5_anHour_20 rfl rfl ?_
      refine ok_aload_n dX5_anHour_21 rfl rfl ?_
      refine ok_getI dX5_anHour_22 f_X5_104 (by first | exact is_lit hv (by decide) rfl | exact is_sq hv hq | exact is_row hv hq | exact is_pn hv hq (by assumption) | assumption) rfl ?_
      rw [W.1]
      refine ok_icmp_ge (tgt := 32) dX5_anHour_25 (by decide) (fun c9 => absurd c9 (i_nle.mpr cw)) (fun _ => ?_)
      refine ok_iconst (v := 1) dX5_anHour_28 (by decide) ?_
      refine ok_goto (tgt := 33) dX5_anHour_29 (by decide) ?_
      refine ok_istore_n (lo' := [_, _, _, _, _]) dX5_anHour_33 rfl (Nat.le_of_ble_eq_true rfl) rfl rfl ?_
      refine ok_aload_n dX5_anHour_34 rfl rfl ?_
      refine ok_iload_n dX5_anHour_35 rfl rfl ?_
      refine ok_iconst (v := 4) dX5_anHour_36 (by decide) ?_
      refine ok_aload_n dX5_anHour_37 rfl rfl ?_
      refine ok_getR dX5_anHour_38 f_X5_19 (by first | exact is_lit hv (by decide) rfl | exact is_sq hv hq | exact is_row hv hq | exact is_pn hv hq (by assumption) | assumption) rfl (by first | exact rf hv rfl | exact rf_row hv hq | assumption) ?_
      refine ok_iload_n dX5_anHour_41 rfl rfl ?_
      refine ok_iaload dX5_anHour_42 (is_lit hv (by decide) rfl) (vp_in_nI (by omega) (by decide)) ?_
      rw [nI_clamp (by omega), W.2 i hi]
      refine ok_callV (M' := mX5_sets) (b' := (0, 0)) (As := [_, _, _]) (cx := 5) dX5_anHour_43 iX5_sets w_859 (by decide) rfl (by first | exact is_lit hv (by decide) rfl | exact is_sq hv hq | exact is_row hv hq | exact is_pn hv hq (by assumption) | assumption) rfl (Nat.le_of_ble_eq_true rfl) ⟨Nat.le_of_ble_eq_true rfl, Nat.le_of_ble_eq_true rfl⟩ (Nat.le_of_ble_eq_true rfl) rfl rfl ?_
      refine sp_X5_sets (f := 4) (by exact hv) h10 (by decide) _ ?_
      have R1 := R.u (k := 7 + 7 * i + 4) (v := w_thr r n (-1) 0 i) (by omega)
      refine ok_aload_n dX5_anHour_46 rfl rfl ?_
      refine ok_iload_n dX5_anHour_47 rfl rfl ?_
      refine ok_iconst (v := 1) dX5_anHour_48 (by decide) ?_
      refine ok_aload_n dX5_anHour_49 rfl rfl ?_
      refine ok_iload_n dX5_anHour_50 rfl rfl ?_
      refine ok_iconst (v := 1) dX5_anHour_51 (by decide) ?_
      refine ok_callV (M' := mX5_its) (b' := (0, 0)) (As := [_, _]) (cx := 5) dX5_anHour_52 iX5_its w_871 (by decide) rfl (by first | exact is_lit hv (by decide) rfl | exact is_sq hv hq | exact is_row hv hq | exact is_pn hv hq (by assumption) | assumption) rfl (Nat.le_of_ble_eq_true rfl) ⟨Nat.le_of_ble_eq_true rfl, Nat.le_of_ble_eq_true rfl⟩ (Nat.le_of_ble_eq_true rfl) rfl rfl ?_
      refine sp_X5_its (by exact hv) R1 (f := 1) hi (by decide) ?_
      rw [ro_sp (by decide) (by decide), if_neg (by omega), ro_hp (by decide)]
      refine ok_aload_n dX5_anHour_55 rfl rfl ?_
      refine ok_getR dX5_anHour_56 f_X5_19 (by first | exact is_lit hv (by decide) rfl | exact is_sq hv hq | exact is_row hv hq | exact is_pn hv hq (by assumption) | assumption) rfl (by first | exact rf hv rfl | exact rf_row hv hq | assumption) ?_
      refine ok_iload_n dX5_anHour_59 rfl rfl ?_
      refine ok_iaload dX5_anHour_60 (is_lit hv (by decide) rfl) (vp_in_nI (by omega) (by decide)) ?_
      rw [nI_clamp (by omega), at_ua (by decide), W.2 i hi]
      refine ok_isub dX5_anHour_61 ?_
      refine ok_sipush (v := 999) dX5_anHour_62 (by decide) ?_
      refine ok_callS (M' := mX5_cut) (b' := (0, 0)) (As := [_, _]) dX5_anHour_65 iX5_cut w_887 rfl (Nat.le_of_ble_eq_true rfl) ⟨Nat.le_of_ble_eq_true rfl, Nat.le_of_ble_eq_true rfl⟩ (Nat.le_of_ble_eq_true rfl) rfl rfl ?_
      refine sp_X5_cut _ _ ?_
      refine ok_callV (M' := mX5_sets) (b' := (0, 0)) (As := [_, _, _]) (cx := 5) dX5_anHour_68 iX5_sets w_859 (by decide) rfl (by first | exact is_lit hv (by decide) rfl | exact is_sq hv hq | exact is_row hv hq | exact is_pn hv hq (by assumption) | assumption) rfl (Nat.le_of_ble_eq_true rfl) ⟨Nat.le_of_ble_eq_true rfl, Nat.le_of_ble_eq_true rfl⟩ (Nat.le_of_ble_eq_true rfl) rfl rfl ?_
      refine sp_X5_sets (f := 1) (by exact hv) h10 (by decide) _ ?_
      have R2 := R1.u (k := 7 + 7 * i + 1) (v := cut (ro r i 1 - w_thr r n (-1) 0 i) 999) (by omega)
      refine ok_iload_n dX5_anHour_71 rfl rfl ?_
      refine ok_if_eq (tgt := 79) dX5_anHour_72 (by decide) (fun c9 => absurd c9 (by decide)) (fun _ => ?_)
      refine ok_iconst (v := 5) dX5_anHour_75 (by decide) ?_
      refine ok_goto (tgt := 81) dX5_anHour_76 (by decide) ?_
      refine ok_istore (lo' := [_, _, _, _, _]) dX5_anHour_81 (Nat.le_of_ble_eq_true rfl) rfl rfl ?_
      refine ok_aload_n dX5_anHour_83 rfl rfl ?_
      refine ok_iload_n dX5_anHour_84 rfl rfl ?_
      refine ok_iload dX5_anHour_85 rfl ?_
      refine ok_aload_n dX5_anHour_87 rfl rfl ?_
      refine ok_iload_n dX5_anHour_88 rfl rfl ?_
      refine ok_iload dX5_anHour_89 rfl ?_
      refine ok_callV (M' := mX5_its) (b' := (0, 0)) (As := [_, _]) (cx := 5) dX5_anHour_91 iX5_its w_871 (by decide) rfl (by first | exact is_lit hv (by decide) rfl | exact is_sq hv hq | exact is_row hv hq | exact is_pn hv hq (by assumption) | assumption) rfl (Nat.le_of_ble_eq_true rfl) ⟨Nat.le_of_ble_eq_true rfl, Nat.le_of_ble_eq_true rfl⟩ (Nat.le_of_ble_eq_true rfl) rfl rfl ?_
      refine sp_X5_its (by exact hv) R2 (f := 5) hi (by decide) ?_
      rw [ro_sp (by decide) (by decide), if_neg (by omega), ro_sp (by decide) (by decide), if_neg (by omega), ro_hp (by decide)]
      refine ok_iconst (v := 1) dX5_anHour_94 (by decide) ?_
      refine ok_iadd dX5_anHour_95 ?_
      refine ok_ldc dX5_anHour_96 w_951 ?_
      refine ok_callS (M' := mX5_cut) (b' := (0, 0)) (As := [_, _]) dX5_anHour_98 iX5_cut w_887 rfl (Nat.le_of_ble_eq_true rfl) ⟨Nat.le_of_ble_eq_true rfl, Nat.le_of_ble_eq_true rfl⟩ (Nat.le_of_ble_eq_true rfl) rfl rfl ?_
      refine sp_X5_cut _ _ ?_
      refine ok_callV (M' := mX5_sets) (b' := (0, 0)) (As := [_, _, _]) (cx := 5) dX5_anHour_101 iX5_sets w_859 (by decide) rfl (by first | exact is_lit hv (by decide) rfl | exact is_sq hv hq | exact is_row hv hq | exact is_pn hv hq (by assumption) | assumption) rfl (Nat.le_of_ble_eq_true rfl) ⟨Nat.le_of_ble_eq_true rfl, Nat.le_of_ble_eq_true rfl⟩ (Nat.le_of_ble_eq_true rfl) rfl rfl ?_
      refine sp_X5_sets (f := 5) (by exact hv) h10 (by decide) _ ?_
      refine ok_iload_n dX5_anHour_104 rfl rfl ?_
      refine ok_iload_n dX5_anHour_105 rfl rfl ?_
      refine ok_if_eq (tgt := 113) dX5_anHour_106 (by decide) (fun c9 => absurd c9 (by decide)) (fun _ => ?_)
      refine ok_iconst (v := 1) dX5_anHour_109 (by decide) ?_
      refine ok_goto (tgt := 114) dX5_anHour_110 (by decide) ?_
      refine ok_iadd dX5_anHour_114 ?_
      refine ok_istore_n (lo' := [_, _, _, _, _]) dX5_anHour_115 rfl (Nat.le_of_ble_eq_true rfl) rfl rfl ?_
      refine ok_iinc (v := _ + 1) (lo' := [_, _, _, _, _]) dX5_anHour_116 rfl rfl (Nat.le_of_ble_eq_true rfl) rfl rfl ?_
      refine ok_goto (tgt := 10) dX5_anHour_119 (by decide) ?_
      rw [nI_1]
      have ew : w_fill (w_will r n (-1) 0) (i + 1) = w_fill (w_will r n (-1) 0) i + 1 := by rw [fill_s, if_pos cw]
      rw [← ew]
      exact ih (i + 1) _ _ _ (by omega) (((M.u (a := 50) (by omega)).u (a := 50) (by omega)).u (a := 50) (by omega)) ⟨(at_ua (by decide)).trans ((at_ua (by decide)).trans ((at_ua (by decide)).trans W.1)), fun p hp => (at_ua (by decide)).trans ((at_ua (by decide)).trans ((at_ua (by decide)).trans (W.2 p hp)))⟩ (hp_s (R2.u (k := 7 + 7 * i + 5) (v := cut (ro r i 5 + 1) 999999) (by omega)) rfl rfl (Or.inl ⟨cw, rfl, rfl⟩))
    · refine ok_iload_n dX5_anHour_10 rfl rfl ?_
      refine ok_aload_n dX5_anHour_11 rfl rfl ?_
      refine ok_getR dX5_anHour_12 f_X5_7 (by first | exact is_lit hv (by decide) rfl | exact is_sq hv hq | exact is_row hv hq | exact is_pn hv hq (by assumption) | assumption) rfl (by first | exact rf hv rfl | exact rf_row hv hq | assumption) ?_
      refine ok_iconst (v := 0) dX5_anHour_15 (by decide) ?_
      refine ok_iaload dX5_anHour_16 (is_lit hv (by decide) rfl) (by unfold vp_in; decide) ?_
      rw [show hI h 50 (Int32.toNatClampNeg 0) = w_hp r n i 0 from R.2.2.1 0 (by decide), R.2.1]
      refine ok_icmp_ge (tgt := 122) dX5_anHour_17 (by decide) (fun c9 => absurd c9 (nI_ge hi (by omega))) (fun _ => ?_)
      refine ok_iload_n dX5_anHour_20 rfl rfl ?_
      refine ok_aload_n dX5_anHour_21 rfl rfl ?_
      refine ok_getI dX5_anHour_22 f_X5_104 (by first | exact is_lit hv (by decide) rfl | exact is_sq hv hq | exact is_row hv hq | exact is_pn hv hq (by assumption) | assumption) rfl ?_
      rw [W.1]
      refine ok_icmp_ge (tgt := 32) dX5_anHour_25 (by decide) (fun _ => ?_) (fun c9 => absurd (i_nlt.mp cw) c9)
      refine ok_iconst (v := 0) dX5_anHour_32 (by decide) ?_
      refine ok_istore_n (lo' := [_, _, _, _, _]) dX5_anHour_33 rfl (Nat.le_of_ble_eq_true rfl) rfl rfl ?_
      refine ok_aload_n dX5_anHour_34 rfl rfl ?_
      refine ok_iload_n dX5_anHour_35 rfl rfl ?_
      refine ok_iconst (v := 4) dX5_anHour_36 (by decide) ?_
      refine ok_aload_n dX5_anHour_37 rfl rfl ?_
      refine ok_getR dX5_anHour_38 f_X5_19 (by first | exact is_lit hv (by decide) rfl | exact is_sq hv hq | exact is_row hv hq | exact is_pn hv hq (by assumption) | assumption) rfl (by first | exact rf hv rfl | exact rf_row hv hq | assumption) ?_
      refine ok_iload_n dX5_anHour_41 rfl rfl ?_
      refine ok_iaload dX5_anHour_42 (is_lit hv (by decide) rfl) (vp_in_nI (by omega) (by decide)) ?_
      rw [nI_clamp (by omega), W.2 i hi]
      refine ok_callV (M' := mX5_sets) (b' := (0, 0)) (As := [_, _, _]) (cx := 5) dX5_anHour_43 iX5_sets w_859 (by decide) rfl (by first | exact is_lit hv (by decide) rfl | exact is_sq hv hq | exact is_row hv hq | exact is_pn hv hq (by assumption) | assumption) rfl (Nat.le_of_ble_eq_true rfl) ⟨Nat.le_of_ble_eq_true rfl, Nat.le_of_ble_eq_true rfl⟩ (Nat.le_of_ble_eq_true rfl) rfl rfl ?_
      refine sp_X5_sets (f := 4) (by exact hv) h10 (by decide) _ ?_
      have R1 := R.u (k := 7 + 7 * i + 4) (v := w_thr r n (-1) 0 i) (by omega)
      refine ok_aload_n dX5_anHour_46 rfl rfl ?_
      refine ok_iload_n dX5_anHour_47 rfl rfl ?_
      refine ok_iconst (v := 1) dX5_anHour_48 (by decide) ?_
      refine ok_aload_n dX5_anHour_49 rfl rfl ?_
      refine ok_iload_n dX5_anHour_50 rfl rfl ?_
      refine ok_iconst (v := 1) dX5_anHour_51 (by decide) ?_
      refine ok_callV (M' := mX5_its) (b' := (0, 0)) (As := [_, _]) (cx := 5) dX5_anHour_52 iX5_its w_871 (by decide) rfl (by first | exact is_lit hv (by decide) rfl | exact is_sq hv hq | exact is_row hv hq | exact is_pn hv hq (by assumption) | assumption) rfl (Nat.le_of_ble_eq_true rfl) ⟨Nat.le_of_ble_eq_true rfl, Nat.le_of_ble_eq_true rfl⟩ (Nat.le_of_ble_eq_true rfl) rfl rfl ?_
      refine sp_X5_its (by exact hv) R1 (f := 1) hi (by decide) ?_
      rw [ro_sp (by decide) (by decide), if_neg (by omega), ro_hp (by decide)]
      refine ok_aload_n dX5_anHour_55 rfl rfl ?_
      refine ok_getR dX5_anHour_56 f_X5_19 (by first | exact is_lit hv (by decide) rfl | exact is_sq hv hq | exact is_row hv hq | exact is_pn hv hq (by assumption) | assumption) rfl (by first | exact rf hv rfl | exact rf_row hv hq | assumption) ?_
      refine ok_iload_n dX5_anHour_59 rfl rfl ?_
      refine ok_iaload dX5_anHour_60 (is_lit hv (by decide) rfl) (vp_in_nI (by omega) (by decide)) ?_
      rw [nI_clamp (by omega), at_ua (by decide), W.2 i hi]
      refine ok_isub dX5_anHour_61 ?_
      refine ok_sipush (v := 999) dX5_anHour_62 (by decide) ?_
      refine ok_callS (M' := mX5_cut) (b' := (0, 0)) (As := [_, _]) dX5_anHour_65 iX5_cut w_887 rfl (Nat.le_of_ble_eq_true rfl) ⟨Nat.le_of_ble_eq_true rfl, Nat.le_of_ble_eq_true rfl⟩ (Nat.le_of_ble_eq_true rfl) rfl rfl ?_
      refine sp_X5_cut _ _ ?_
      refine ok_callV (M' := mX5_sets) (b' := (0, 0)) (As := [_, _, _]) (cx := 5) dX5_anHour_68 iX5_sets w_859 (by decide) rfl (by first | exact is_lit hv (by decide) rfl | exact is_sq hv hq | exact is_row hv hq | exact is_pn hv hq (by assumption) | assumption) rfl (Nat.le_of_ble_eq_true rfl) ⟨Nat.le_of_ble_eq_true rfl, Nat.le_of_ble_eq_true rfl⟩ (Nat.le_of_ble_eq_true rfl) rfl rfl ?_
      refine sp_X5_sets (f := 1) (by exact hv) h10 (by decide) _ ?_
      have R2 := R1.u (k := 7 + 7 * i + 1) (v := cut (ro r i 1 - w_thr r n (-1) 0 i) 999) (by omega)
      refine ok_iload_n dX5_anHour_71 rfl rfl ?_
      refine ok_if_eq (tgt := 79) dX5_anHour_72 (by decide) (fun _ => ?_) (fun c9 => absurd rfl c9)
      refine ok_bipush (v := 6) dX5_anHour_79 (by decide) ?_
      refine ok_istore (lo' := [_, _, _, _, _]) dX5_anHour_81 (Nat.le_of_ble_eq_true rfl) rfl rfl ?_
      refine ok_aload_n dX5_anHour_83 rfl rfl ?_
      refine ok_iload_n dX5_anHour_84 rfl rfl ?_
      refine ok_iload dX5_anHour_85 rfl ?_
      refine ok_aload_n dX5_anHour_87 rfl rfl ?_
      refine ok_iload_n dX5_anHour_88 rfl rfl ?_
      refine ok_iload dX5_anHour_89 rfl ?_
      refine ok_callV (M' := mX5_its) (b' := (0, 0)) (As := [_, _]) (cx := 5) dX5_anHour_91 iX5_its w_871 (by decide) rfl (by first | exact is_lit hv (by decide) rfl | exact is_sq hv hq | exact is_row hv hq | exact is_pn hv hq (by assumption) | assumption) rfl (Nat.le_of_ble_eq_true rfl) ⟨Nat.le_of_ble_eq_true rfl, Nat.le_of_ble_eq_true rfl⟩ (Nat.le_of_ble_eq_true rfl) rfl rfl ?_
      refine sp_X5_its (by exact hv) R2 (f := 6) hi (by decide) ?_
      rw [ro_sp (by decide) (by decide), if_neg (by omega), ro_sp (by decide) (by decide), if_neg (by omega), ro_hp (by decide)]
      refine ok_iconst (v := 1) dX5_anHour_94 (by decide) ?_
      refine ok_iadd dX5_anHour_95 ?_
      refine ok_ldc dX5_anHour_96 w_951 ?_
      refine ok_callS (M' := mX5_cut) (b' := (0, 0)) (As := [_, _]) dX5_anHour_98 iX5_cut w_887 rfl (Nat.le_of_ble_eq_true rfl) ⟨Nat.le_of_ble_eq_true rfl, Nat.le_of_ble_eq_true rfl⟩ (Nat.le_of_ble_eq_true rfl) rfl rfl ?_
      refine sp_X5_cut _ _ ?_
      refine ok_callV (M' := mX5_sets) (b' := (0, 0)) (As := [_, _, _]) (cx := 5) dX5_anHour_101 iX5_sets w_859 (by decide) rfl (by first | exact is_lit hv (by decide) rfl | exact is_sq hv hq | exact is_row hv hq | exact is_pn hv hq (by assumption) | assumption) rfl (Nat.le_of_ble_eq_true rfl) ⟨Nat.le_of_ble_eq_true rfl, Nat.le_of_ble_eq_true rfl⟩ (Nat.le_of_ble_eq_true rfl) rfl rfl ?_
      refine sp_X5_sets (f := 6) (by exact hv) h10 (by decide) _ ?_
      refine ok_iload_n dX5_anHour_104 rfl rfl ?_
      refine ok_iload_n dX5_anHour_105 rfl rfl ?_
      refine ok_if_eq (tgt := 113) dX5_anHour_106 (by decide) (fun _ => ?_) (fun c9 => absurd rfl c9)
      refine ok_iconst (v := 0) dX5_anHour_113 (by decide) ?_
      refine ok_iadd dX5_anHour_114 ?_
      refine ok_istore_n (lo' := [_, _, _, _, _]) dX5_anHour_115 rfl (Nat.le_of_ble_eq_true rfl) rfl rfl ?_
      refine ok_iinc (v := _ + 1) (lo' := [_, _, _, _, _]) dX5_anHour_116 rfl rfl (Nat.le_of_ble_eq_true rfl) rfl rfl ?_
      refine ok_goto (tgt := 10) dX5_anHour_119 (by decide) ?_
      rw [nI_1]
      have ew : w_fill (w_will r n (-1) 0) (i + 1) = w_fill (w_will r n (-1) 0) i + 0 := by rw [fill_s, if_neg cw]
      rw [← ew]
      exact ih (i + 1) _ _ _ (by omega) (((M.u (a := 50) (by omega)).u (a := 50) (by omega)).u (a := 50) (by omega)) ⟨(at_ua (by decide)).trans ((at_ua (by decide)).trans ((at_ua (by decide)).trans W.1)), fun p hp => (at_ua (by decide)).trans ((at_ua (by decide)).trans ((at_ua (by decide)).trans (W.2 p hp)))⟩ (hp_s (R2.u (k := 7 + 7 * i + 6) (v := cut (ro r i 6 + 1) 999999) (by omega)) rfl rfl (Or.inr ⟨cw, rfl, rfl⟩))
theorem sp_X5_anHour {g : GG} {h : Hp} {Post : Option Value → Hp → Prop} (hv : Inv h) {n : Nat} {r : Nat → Int32} (R : RM 50 h n r) (G : RG r n) (K : ∀ h', QM h h' → RM 50 h' n (w_hour r n (-1) 0) → Post (some (.int (w_fill (w_will r n (-1) 0) n))) h') : Sp g mX5_anHour [.ref 49] h Post := by
  show Go g mX5_anHour 0 [_, _, _, _, _] [] _ _ _
  have hv0 := hv
  refine ok_aload_n dX5_anHour_0 rfl rfl ?_
  refine ok_iconst (v := -1) dX5_anHour_1 (by decide) ?_
  refine ok_iconst (v := 0) dX5_anHour_2 (by decide) ?_
  refine ok_callV (M' := mX5_throwAll) (b' := (0, 0)) (As := [_, _]) (cx := 5) dX5_anHour_3 iX5_throwAll w_943 (by decide) rfl (by first | exact is_lit hv (by decide) rfl | exact is_sq hv hq | exact is_row hv hq | exact is_pn hv hq (by assumption) | assumption) rfl (Nat.le_of_ble_eq_true rfl) ⟨Nat.le_of_ble_eq_true rfl, Nat.le_of_ble_eq_true rfl⟩ (Nat.le_of_ble_eq_true rfl) rfl rfl ?_
  refine sp_X5_throwAll hv R G (-1) (0) (fun h1 M1 w1 t1 => ?_)
  have hv := M1.1.inv hv
  have R := M1.rm R
  refine ok_iconst (v := 0) dX5_anHour_6 (by decide) ?_
  refine ok_istore_n (lo' := [_, _, _, _, _]) dX5_anHour_7 rfl (Nat.le_of_ble_eq_true rfl) rfl rfl ?_
  refine ok_iconst (v := 0) dX5_anHour_8 (by decide) ?_
  refine ok_istore_n (lo' := [_, _, _, _, _]) dX5_anHour_9 rfl (Nat.le_of_ble_eq_true rfl) rfl rfl ?_
  exact lp_X5_anHour_10 hv0 R.1 K n 0 h1 _ _ (by omega) M1.1 ⟨w1, t1⟩ (hp_0 R)
