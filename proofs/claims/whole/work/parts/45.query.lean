/-! ===== the reference: queries ===== -/
/-- what stays of the reference over a call that asks -/
def QL (h h' : Hp) : Prop := h'.2.2 = h.2.2 ∧ (∀ a, a ≠ 49 → a ≠ 50 → a ≠ 52 → a ≠ 53 → a ≠ 54 → a ≠ 61 → h'.1 a = h.1 a) ∧ (∀ a, a ≠ 49 → a ≠ 59 → h'.2.1 a = h.2.1 a) ∧ h'.1 49 7 = h.1 49 7 ∧ h'.1 49 20 = h.1 49 20
theorem QL.rf {h : Hp} : QL h h := ⟨rfl, fun _ _ _ _ _ _ _ => rfl, fun _ _ _ => rfl, rfl, rfl⟩
theorem QL.tr {h h' h'' : Hp} (a : QL h h') (b : QL h' h'') : QL h h'' := ⟨b.1.trans a.1, fun x h1 h2 h3 h4 h5 h6 => (b.2.1 x h1 h2 h3 h4 h5 h6).trans (a.2.1 x h1 h2 h3 h4 h5 h6), fun x h1 h2 => (b.2.2.1 x h1 h2).trans (a.2.2.1 x h1 h2), b.2.2.2.1.trans a.2.2.2.1, b.2.2.2.2.trans a.2.2.2.2⟩
theorem QL.inv {h h' : Hp} (M : QL h h') (hv : Inv h) : Inv h' := by show InvR h'.2.2; rw [M.1]; exact hv
theorem QM.ql {h h' : Hp} (M : QM h h') : QL h h' := ⟨M.1, fun x h1 h2 h3 h4 _ _ => M.2.1 x h1 h2 h3 h4, fun x _ _ => by rw [M.2.2.1], M.2.2.2.1, M.2.2.2.2⟩
theorem QL.cp {h : Hp} {s d i : Nat} (hd : d = 50 ∨ d = 54 ∨ d = 61) : QL h (cpI h s d i) := ⟨rfl, fun x h1 h2 h3 h4 h5 h6 => funext fun _ => if_neg (fun e => by omega), fun _ _ _ => rfl, if_neg (fun e => by omega), if_neg (fun e => by omega)⟩
theorem QL.u {h h' : Hp} (M : QL h h') {a k : Nat} {v : Int32} (ha : a = 50 ∨ a = 52 ∨ a = 53 ∨ (a = 49 ∧ k ≠ 7 ∧ k ≠ 20)) : QL h (uI h' a k v) := M.tr (QM.rf.u ha).ql
theorem RM.fr {a : Nat} {h h' : Hp} {n : Nat} {r : Nat → Int32} (R : RM a h n r) (e : h'.1 a = h.1 a) : RM a h' n r := ⟨R.1, R.2.1, fun k hk => by show h'.1 a k = _; rw [e]; exact R.2.2.1 k hk, fun p f hp hf => by show h'.1 a _ = _; rw [e]; exact R.2.2.2 p f hp hf⟩
theorem sto1 : Sto 54 := Or.inl rfl
theorem fill_in (w : Int32) : ∀ n, n ≤ 10 → 0 ≤ (w_fill w n).toInt ∧ (w_fill w n).toInt ≤ n
  | 0, _ => ⟨show 0 ≤ (0 : Int32).toInt by decide, show (0 : Int32).toInt ≤ _ by decide⟩
  | n + 1, h => by
    have ih := fill_in w n (by omega)
    have e1 : (1 : Int32).toInt = 1 := rfl
    have e0 : (0 : Int32).toInt = 0 := rfl
    rw [w_fill]
    split
    · rw [fb_addI (by omega) (by omega)]; omega
    · rw [fb_addI (by omega) (by omega)]; omega
theorem fls_in {r : Nat → Int32} {n : Nat} (hn : n ≤ 10) : ∀ m, m ≤ 300 → 0 ≤ (w_fls r n m).toInt ∧ (w_fls r n m).toInt ≤ 10 * m
  | 0, _ => ⟨show 0 ≤ (0 : Int32).toInt by decide, show (0 : Int32).toInt ≤ _ by decide⟩
  | m + 1, h => by
    have ih := fls_in (r := r) hn m (by omega)
    have f := fill_in (w_will (w_hrs r n m) n (-1) 0) n hn
    rw [w_fls, fb_addI (by omega) (by omega)]
    omega
theorem pur_in {r : Nat → Int32} {n : Nat} (G : RG r n) : ∀ i, i ≤ n → 0 ≤ (w_sum (fun p => ro r p 1) i).toInt ∧ (w_sum (fun p => ro r p 1) i).toInt ≤ 999 * i
  | 0, _ => ⟨show 0 ≤ (0 : Int32).toInt by decide, show (0 : Int32).toInt ≤ _ by decide⟩
  | i + 1, h => by
    have hn := G.1
    have ih := pur_in G i (by omega)
    obtain ⟨u, hu, e⟩ := (G.2.2.2.2 i (by omega)).2.1
    have h2 : (nI u).toInt = u := nI_toInt (by omega)
    rw [w_sum, e, fb_addI (by omega) (by omega)]
    omega
theorem emp_no {r : Nat → Int32} {n k : Nat} (G : RG r n) (h : ¬ w_emp r n k = 0) : ¬ w_emp r n k ≤ 0 := by
  intro c
  have := (pur_in (G.hrs k) n (Nat.le_refl _)).1
  apply h
  unfold w_emp at c ⊢
  rw [i_le] at c
  rw [i_eq]
  have e0 : (0 : Int32).toInt = 0 := rfl
  omega
theorem emp_ok {r : Nat → Int32} {n k : Nat} (h : w_emp r n k = 0) : w_emp r n k ≤ 0 := by rw [h]; decide
/-- what one gains is above all that a search begins with -/
theorem gain_lo {r : Nat → Int32} {n p : Nat} (G : RG r n) (hp : p < n) : (-999999 : Int32) < w_gain r n (-1) 0 p := by
  obtain ⟨-, ⟨u, hu, e1⟩, w, hw, e2⟩ := G.2.2.2.2 p hp
  have t := thr_in G.1 hp hu e1
  have h2 : (nI w).toInt = w := nI_toInt (by omega)
  have e0 : (0 : Int32).toInt = 0 := rfl
  have e9 : (-999999 : Int32).toInt = -999999 := rfl
  unfold w_gain
  rw [i_lt, e2]
  split
  · rw [fb_subI (by omega) (by omega)]; omega
  · rw [fb_subI (by omega) (by omega)]; omega
/-- a search that begins below the first -/
def a0 (c : Int32) (f : Nat → Int32) : Nat → Nat × Int32
  | 0 => (0, c)
  | k + 1 => if f k ≤ (a0 c f k).2 then a0 c f k else (k, f k)
theorem a0_am {c : Int32} {f : Nat → Int32} (h : c < f 0) : ∀ k, a0 c f (k + 1) = am f k
  | 0 => by rw [a0, a0, if_neg (i_nle.mpr h), am]
  | k + 1 => by rw [a0, a0_am h k, am]
theorem set_set {r : Nat → Int32} {k : Nat} {x y : Int32} : w_set (w_set r k x) k y = w_set r k y := by
  funext j
  unfold w_set
  split <;> rfl
theorem set_self {r : Nat → Int32} {k : Nat} : w_set r k (r k) = r := by
  funext j
  unfold w_set
  split
  · rename_i e; rw [e]
  · rfl
theorem set_div {r : Nat → Int32} {s l : Int32} : w_set (w_set (w_set (w_set r 3 s) 4 l) 3 (r 3)) 4 (r 4) = r := by
  funext j
  unfold w_set
  split
  · rename_i e; rw [e]
  · split
    · rename_i e; rw [e]
    · rfl
theorem mv_bk {f t p : Nat} : mv f t (mv t f p) = p := by
  unfold mv
  split <;> split <;> (try split) <;> (try split) <;> (try split) <;> (try split) <;> (try split) <;> (try split) <;> (try split) <;> omega
theorem pm_bk {h : Hp} {n f t : Nat} {r : Nat → Int32} (R : RM 50 h n (w_pm (w_pm r (mv f t)) (mv t f))) : RM 50 h n r := R.congr (fun k hk => by rw [w_pm, mk_s hk, w_pm, mk_s hk]) (fun p e hp he => by rw [w_pm, ro_mk he, w_pm, ro_mk he, mv_bk])
theorem sp_X5_runs {g : GG} {h : Hp} {Post : Option Value → Hp → Prop} (hv : Inv h) {n : Nat} {r : Nat → Int32} (R : RM 50 h n r) (G : RG r n) (K : ∀ h', TM h h' → Post (some (.int (w_will r n (-1) 0))) h') : Sp g mX5_runs [.ref 49] h Post := by
  show Go g mX5_runs 0 [_] [] _ _ _
  refine ok_aload_n dX5_runs_0 rfl rfl ?_
  refine ok_iconst (v := -1) dX5_runs_1 (by decide) ?_
  refine ok_iconst (v := 0) dX5_runs_2 (by decide) ?_
  refine ok_callV (M' := mX5_throwAll) (b' := (0, 0)) (As := [_, _]) (cx := 5) dX5_runs_3 iX5_throwAll w_943 (by decide) rfl (by first | exact is_lit hv (by decide) rfl | exact is_sq hv hq | exact is_row hv hq | exact is_pn hv hq (by assumption) | assumption) rfl (Nat.le_of_ble_eq_true rfl) ⟨Nat.le_of_ble_eq_true rfl, Nat.le_of_ble_eq_true rfl⟩ (Nat.le_of_ble_eq_true rfl) rfl rfl ?_
  refine sp_X5_throwAll hv R G (-1) (0) (fun h1 M1 w1 t1 => ?_)
  have hv := M1.1.inv hv
  have R := M1.rm R
  refine ok_aload_n dX5_runs_6 rfl rfl ?_
  refine ok_getI dX5_runs_7 f_X5_104 (by first | exact is_lit hv (by decide) rfl | exact is_sq hv hq | exact is_row hv hq | exact is_pn hv hq (by assumption) | assumption) rfl ?_
  refine ok_ireturn dX5_runs_10 rfl rfl ?_
  rw [w1]
  exact K h1 M1
theorem sp_X5_all {g : GG} {h : Hp} {Post : Option Value → Hp → Prop} (hv : Inv h) {n : Nat} {r : Nat → Int32} (R : RM 50 h n r) (G : RG r n) (K : ∀ h', TM h h' → Post (some (.int (w_sum (w_gain r n (-1) 0) n))) h') : Sp g mX5_all [.ref 49] h Post := by
  show Go g mX5_all 0 [_] [] _ _ _
  refine ok_aload_n dX5_all_0 rfl rfl ?_
  refine ok_callV (M' := mX5_gainOfAll) (b' := (0, 0)) (As := []) (cx := 5) dX5_all_1 iX5_gainOfAll w_984 (by decide) rfl (by first | exact is_lit hv (by decide) rfl | exact is_sq hv hq | exact is_row hv hq | exact is_pn hv hq (by assumption) | assumption) rfl (Nat.le_of_ble_eq_true rfl) ⟨Nat.le_of_ble_eq_true rfl, Nat.le_of_ble_eq_true rfl⟩ (Nat.le_of_ble_eq_true rfl) rfl rfl ?_
  refine sp_X5_gainOfAll hv R G (fun h1 M1 => ?_)
  refine ok_ireturn dX5_all_4 rfl rfl ?_
  exact K h1 M1
theorem sp_X5_thrown_b {g : GG} {h : Hp} {Post : Option Value → Hp → Prop} (hv : Inv h) {n : Nat} {r : Nat → Int32} (R : RM 50 h n r) (p : Int32) (hb : p < 0 ∨ nI n ≤ p) (K : Post (some (.int (-1000000001))) (hfm h 0)) : Sp g mX5_thrown [.ref 49, .int p] h Post := by
  show Go g mX5_thrown 0 [_, _] [] _ _ _
  refine ok_aload_n dX5_thrown_0 rfl rfl ?_
  refine ok_iload_n dX5_thrown_1 rfl rfl ?_
  refine ok_callV (M' := mX5_isOne) (b' := (0, 0)) (As := [_]) (cx := 5) dX5_thrown_2 iX5_isOne w_867 (by decide) rfl (by first | exact is_lit hv (by decide) rfl | exact is_sq hv hq | exact is_row hv hq | exact is_pn hv hq (by assumption) | assumption) rfl (Nat.le_of_ble_eq_true rfl) ⟨Nat.le_of_ble_eq_true rfl, Nat.le_of_ble_eq_true rfl⟩ (Nat.le_of_ble_eq_true rfl) rfl rfl ?_
  refine sp_X5_isOne hv R _ ?_
  rw [one_bad R.1 hb]
  refine ok_if_ne (tgt := 15) dX5_thrown_5 (by decide) (fun c9 => absurd c9 (fun c => c rfl)) (fun _ => ?_)
  refine ok_aload_n dX5_thrown_8 rfl rfl ?_
  refine ok_ldc dX5_thrown_9 w_849 ?_
  refine ok_callV (M' := mX5_finds) (b' := (0, 0)) (As := [_]) (cx := 5) dX5_thrown_11 iX5_finds w_850 (by decide) rfl (by first | exact is_lit hv (by decide) rfl | exact is_sq hv hq | exact is_row hv hq | exact is_pn hv hq (by assumption) | assumption) rfl (Nat.le_of_ble_eq_true rfl) ⟨Nat.le_of_ble_eq_true rfl, Nat.le_of_ble_eq_true rfl⟩ (Nat.le_of_ble_eq_true rfl) rfl rfl ?_
  refine sp_X5_finds hv (k := 0) (by decide) (by decide) ?_
  refine ok_ireturn dX5_thrown_14 rfl rfl ?_
  first | exact K | (simp only [↓reduceIte] at K; exact K)
theorem sp_X5_thrown {g : GG} {h : Hp} {Post : Option Value → Hp → Prop} (hv : Inv h) {n : Nat} {r : Nat → Int32} (R : RM 50 h n r) (G : RG r n) {j : Nat} (hj : j < n) (K : ∀ h', TM h h' → Post (some (.int (w_thr r n (-1) 0 j))) h') : Sp g mX5_thrown [.ref 49, .int (nI j)] h Post := by
  show Go g mX5_thrown 0 [_, _] [] _ _ _
  have hn := R.1
  refine ok_aload_n dX5_thrown_0 rfl rfl ?_
  refine ok_iload_n dX5_thrown_1 rfl rfl ?_
  refine ok_callV (M' := mX5_isOne) (b' := (0, 0)) (As := [_]) (cx := 5) dX5_thrown_2 iX5_isOne w_867 (by decide) rfl (by first | exact is_lit hv (by decide) rfl | exact is_sq hv hq | exact is_row hv hq | exact is_pn hv hq (by assumption) | assumption) rfl (Nat.le_of_ble_eq_true rfl) ⟨Nat.le_of_ble_eq_true rfl, Nat.le_of_ble_eq_true rfl⟩ (Nat.le_of_ble_eq_true rfl) rfl rfl ?_
  refine sp_X5_isOne hv R _ ?_
  rw [one_ok R.1 hj]
  refine ok_if_ne (tgt := 15) dX5_thrown_5 (by decide) (fun _ => ?_) (fun c9 => absurd c9 (by decide))
  refine ok_aload_n dX5_thrown_15 rfl rfl ?_
  refine ok_iconst (v := -1) dX5_thrown_16 (by decide) ?_
  refine ok_iconst (v := 0) dX5_thrown_17 (by decide) ?_
  refine ok_callV (M' := mX5_throwAll) (b' := (0, 0)) (As := [_, _]) (cx := 5) dX5_thrown_18 iX5_throwAll w_943 (by decide) rfl (by first | exact is_lit hv (by decide) rfl | exact is_sq hv hq | exact is_row hv hq | exact is_pn hv hq (by assumption) | assumption) rfl (Nat.le_of_ble_eq_true rfl) ⟨Nat.le_of_ble_eq_true rfl, Nat.le_of_ble_eq_true rfl⟩ (Nat.le_of_ble_eq_true rfl) rfl rfl ?_
  refine sp_X5_throwAll hv R G (-1) (0) (fun h1 M1 w1 t1 => ?_)
  have hv := M1.1.inv hv
  have R := M1.rm R
  refine ok_aload_n dX5_thrown_21 rfl rfl ?_
  refine ok_getR dX5_thrown_22 f_X5_19 (by first | exact is_lit hv (by decide) rfl | exact is_sq hv hq | exact is_row hv hq | exact is_pn hv hq (by assumption) | assumption) rfl (by first | exact rf hv rfl | exact rf_row hv hq | assumption) ?_
  refine ok_iload_n dX5_thrown_25 rfl rfl ?_
  refine ok_iaload dX5_thrown_26 (is_lit hv (by decide) rfl) (vp_in_nI (by omega) (by decide)) ?_
  rw [nI_clamp (by omega), t1 j hj]
  refine ok_ireturn dX5_thrown_27 rfl rfl ?_
  exact K h1 M1
theorem sp_X5_gain_b {g : GG} {h : Hp} {Post : Option Value → Hp → Prop} (hv : Inv h) {n : Nat} {r : Nat → Int32} (R : RM 50 h n r) (p : Int32) (hb : p < 0 ∨ nI n ≤ p) (K : Post (some (.int (-1000000001))) (hfm h 0)) : Sp g mX5_gain [.ref 49, .int p] h Post := by
  show Go g mX5_gain 0 [_, _] [] _ _ _
  refine ok_aload_n dX5_gain_0 rfl rfl ?_
  refine ok_iload_n dX5_gain_1 rfl rfl ?_
  refine ok_callV (M' := mX5_isOne) (b' := (0, 0)) (As := [_]) (cx := 5) dX5_gain_2 iX5_isOne w_867 (by decide) rfl (by first | exact is_lit hv (by decide) rfl | exact is_sq hv hq | exact is_row hv hq | exact is_pn hv hq (by assumption) | assumption) rfl (Nat.le_of_ble_eq_true rfl) ⟨Nat.le_of_ble_eq_true rfl, Nat.le_of_ble_eq_true rfl⟩ (Nat.le_of_ble_eq_true rfl) rfl rfl ?_
  refine sp_X5_isOne hv R _ ?_
  rw [one_bad R.1 hb]
  refine ok_if_eq (tgt := 16) dX5_gain_5 (by decide) (fun _ => ?_) (fun c9 => absurd rfl c9)
  refine ok_aload_n dX5_gain_16 rfl rfl ?_
  refine ok_ldc dX5_gain_17 w_849 ?_
  refine ok_callV (M' := mX5_finds) (b' := (0, 0)) (As := [_]) (cx := 5) dX5_gain_19 iX5_finds w_850 (by decide) rfl (by first | exact is_lit hv (by decide) rfl | exact is_sq hv hq | exact is_row hv hq | exact is_pn hv hq (by assumption) | assumption) rfl (Nat.le_of_ble_eq_true rfl) ⟨Nat.le_of_ble_eq_true rfl, Nat.le_of_ble_eq_true rfl⟩ (Nat.le_of_ble_eq_true rfl) rfl rfl ?_
  refine sp_X5_finds hv (k := 0) (by decide) (by decide) ?_
  refine ok_ireturn dX5_gain_22 rfl rfl ?_
  first | exact K | (simp only [↓reduceIte] at K; exact K)
theorem sp_X5_gain {g : GG} {h : Hp} {Post : Option Value → Hp → Prop} (hv : Inv h) {n : Nat} {r : Nat → Int32} (R : RM 50 h n r) (G : RG r n) {j : Nat} (hj : j < n) (K : ∀ h', TM h h' → Post (some (.int (w_gain r n (-1) 0 j))) h') : Sp g mX5_gain [.ref 49, .int (nI j)] h Post := by
  show Go g mX5_gain 0 [_, _] [] _ _ _
  refine ok_aload_n dX5_gain_0 rfl rfl ?_
  refine ok_iload_n dX5_gain_1 rfl rfl ?_
  refine ok_callV (M' := mX5_isOne) (b' := (0, 0)) (As := [_]) (cx := 5) dX5_gain_2 iX5_isOne w_867 (by decide) rfl (by first | exact is_lit hv (by decide) rfl | exact is_sq hv hq | exact is_row hv hq | exact is_pn hv hq (by assumption) | assumption) rfl (Nat.le_of_ble_eq_true rfl) ⟨Nat.le_of_ble_eq_true rfl, Nat.le_of_ble_eq_true rfl⟩ (Nat.le_of_ble_eq_true rfl) rfl rfl ?_
  refine sp_X5_isOne hv R _ ?_
  rw [one_ok R.1 hj]
  refine ok_if_eq (tgt := 16) dX5_gain_5 (by decide) (fun c9 => absurd c9 (by decide)) (fun _ => ?_)
  refine ok_aload_n dX5_gain_8 rfl rfl ?_
  refine ok_iload_n dX5_gain_9 rfl rfl ?_
  refine ok_callV (M' := mX5_gainNow) (b' := (0, 0)) (As := [_]) (cx := 5) dX5_gain_10 iX5_gainNow w_972 (by decide) rfl (by first | exact is_lit hv (by decide) rfl | exact is_sq hv hq | exact is_row hv hq | exact is_pn hv hq (by assumption) | assumption) rfl (Nat.le_of_ble_eq_true rfl) ⟨Nat.le_of_ble_eq_true rfl, Nat.le_of_ble_eq_true rfl⟩ (Nat.le_of_ble_eq_true rfl) rfl rfl ?_
  refine sp_X5_gainNow hv R G hj (fun h1 M1 => ?_)
  refine ok_goto (tgt := 22) dX5_gain_13 (by decide) ?_
  refine ok_ireturn dX5_gain_22 rfl rfl ?_
  exact K h1 M1
theorem sp_X5_on_b {g : GG} {h : Hp} {Post : Option Value → Hp → Prop} (hv : Inv h) {n : Nat} {r : Nat → Int32} (R : RM 50 h n r) (p v : Int32) (hb : p < 0 ∨ nI n ≤ p) (K : Post (some (.int (-1000000001))) (hfm h 0)) : Sp g mX5_on [.ref 49, .int p, .int v] h Post := by
  show Go g mX5_on 0 [_, _, _, _, _] [] _ _ _
  refine ok_aload_n dX5_on_0 rfl rfl ?_
  refine ok_iload_n dX5_on_1 rfl rfl ?_
  refine ok_callV (M' := mX5_isOne) (b' := (0, 0)) (As := [_]) (cx := 5) dX5_on_2 iX5_isOne w_867 (by decide) rfl (by first | exact is_lit hv (by decide) rfl | exact is_sq hv hq | exact is_row hv hq | exact is_pn hv hq (by assumption) | assumption) rfl (Nat.le_of_ble_eq_true rfl) ⟨Nat.le_of_ble_eq_true rfl, Nat.le_of_ble_eq_true rfl⟩ (Nat.le_of_ble_eq_true rfl) rfl rfl ?_
  refine sp_X5_isOne hv R _ ?_
  rw [one_bad R.1 hb]
  refine ok_if_eq (tgt := 19) dX5_on_5 (by decide) (fun _ => ?_) (fun c9 => absurd rfl c9)
  refine ok_aload_n dX5_on_19 rfl rfl ?_
  refine ok_ldc dX5_on_20 w_849 ?_
  refine ok_callV (M' := mX5_finds) (b' := (0, 0)) (As := [_]) (cx := 5) dX5_on_22 iX5_finds w_850 (by decide) rfl (by first | exact is_lit hv (by decide) rfl | exact is_sq hv hq | exact is_row hv hq | exact is_pn hv hq (by assumption) | assumption) rfl (Nat.le_of_ble_eq_true rfl) ⟨Nat.le_of_ble_eq_true rfl, Nat.le_of_ble_eq_true rfl⟩ (Nat.le_of_ble_eq_true rfl) rfl rfl ?_
  refine sp_X5_finds hv (k := 0) (by decide) (by decide) ?_
  refine ok_ireturn dX5_on_25 rfl rfl ?_
  first | exact K | (simp only [↓reduceIte] at K; exact K)
theorem sp_X5_on_w {g : GG} {h : Hp} {Post : Option Value → Hp → Prop} (hv : Inv h) {n : Nat} {r : Nat → Int32} (R : RM 50 h n r) {j : Nat} (hj : j < n) {v : Int32} (hb : v < 0 ∨ 200 < v) (K : Post (some (.int (-1000000001))) (hfm h 0)) : Sp g mX5_on [.ref 49, .int (nI j), .int v] h Post := by
  show Go g mX5_on 0 [_, _, _, _, _] [] _ _ _
  refine ok_aload_n dX5_on_0 rfl rfl ?_
  refine ok_iload_n dX5_on_1 rfl rfl ?_
  refine ok_callV (M' := mX5_isOne) (b' := (0, 0)) (As := [_]) (cx := 5) dX5_on_2 iX5_isOne w_867 (by decide) rfl (by first | exact is_lit hv (by decide) rfl | exact is_sq hv hq | exact is_row hv hq | exact is_pn hv hq (by assumption) | assumption) rfl (Nat.le_of_ble_eq_true rfl) ⟨Nat.le_of_ble_eq_true rfl, Nat.le_of_ble_eq_true rfl⟩ (Nat.le_of_ble_eq_true rfl) rfl rfl ?_
  refine sp_X5_isOne hv R _ ?_
  rw [one_ok R.1 hj]
  refine ok_if_eq (tgt := 19) dX5_on_5 (by decide) (fun c9 => absurd c9 (by decide)) (fun _ => ?_)
  refine ok_iload_n dX5_on_8 rfl rfl ?_
  refine ok_iconst (v := 0) dX5_on_9 (by decide) ?_
  refine ok_sipush (v := 200) dX5_on_10 (by decide) ?_
  refine ok_callS (M' := mX5_in) (b' := (0, 0)) (As := [_, _, _]) dX5_on_13 iX5_in w_846 rfl (Nat.le_of_ble_eq_true rfl) ⟨Nat.le_of_ble_eq_true rfl, Nat.le_of_ble_eq_true rfl⟩ (Nat.le_of_ble_eq_true rfl) rfl rfl ?_
  refine sp_X5_in _ _ _ ?_
  rw [wi_bad hb]
  refine ok_if_ne (tgt := 26) dX5_on_16 (by decide) (fun c9 => absurd c9 (fun c => c rfl)) (fun _ => ?_)
  refine ok_aload_n dX5_on_19 rfl rfl ?_
  refine ok_ldc dX5_on_20 w_849 ?_
  refine ok_callV (M' := mX5_finds) (b' := (0, 0)) (As := [_]) (cx := 5) dX5_on_22 iX5_finds w_850 (by decide) rfl (by first | exact is_lit hv (by decide) rfl | exact is_sq hv hq | exact is_row hv hq | exact is_pn hv hq (by assumption) | assumption) rfl (Nat.le_of_ble_eq_true rfl) ⟨Nat.le_of_ble_eq_true rfl, Nat.le_of_ble_eq_true rfl⟩ (Nat.le_of_ble_eq_true rfl) rfl rfl ?_
  refine sp_X5_finds hv (k := 0) (by decide) (by decide) ?_
  refine ok_ireturn dX5_on_25 rfl rfl ?_
  first | exact K | (simp only [↓reduceIte] at K; exact K)
theorem sp_X5_on_s {g : GG} {h : Hp} {Post : Option Value → Hp → Prop} (hv : Inv h) {n : Nat} {r : Nat → Int32} (R : RM 50 h n r) {j : Nat} (hj : j < n) {v : Int32} (h1 : ¬ v < 0) (h2 : ¬ 200 < v) (hs : ¬ r 5 + v ≤ 9999) (K : Post (some (.int (-1000000005))) (hfm h 4)) : Sp g mX5_on [.ref 49, .int (nI j), .int v] h Post := by
  show Go g mX5_on 0 [_, _, _, _, _] [] _ _ _
  refine ok_aload_n dX5_on_0 rfl rfl ?_
  refine ok_iload_n dX5_on_1 rfl rfl ?_
  refine ok_callV (M' := mX5_isOne) (b' := (0, 0)) (As := [_]) (cx := 5) dX5_on_2 iX5_isOne w_867 (by decide) rfl (by first | exact is_lit hv (by decide) rfl | exact is_sq hv hq | exact is_row hv hq | exact is_pn hv hq (by assumption) | assumption) rfl (Nat.le_of_ble_eq_true rfl) ⟨Nat.le_of_ble_eq_true rfl, Nat.le_of_ble_eq_true rfl⟩ (Nat.le_of_ble_eq_true rfl) rfl rfl ?_
  refine sp_X5_isOne hv R _ ?_
  rw [one_ok R.1 hj]
  refine ok_if_eq (tgt := 19) dX5_on_5 (by decide) (fun c9 => absurd c9 (by decide)) (fun _ => ?_)
  refine ok_iload_n dX5_on_8 rfl rfl ?_
  refine ok_iconst (v := 0) dX5_on_9 (by decide) ?_
  refine ok_sipush (v := 200) dX5_on_10 (by decide) ?_
  refine ok_callS (M' := mX5_in) (b' := (0, 0)) (As := [_, _, _]) dX5_on_13 iX5_in w_846 rfl (Nat.le_of_ble_eq_true rfl) ⟨Nat.le_of_ble_eq_true rfl, Nat.le_of_ble_eq_true rfl⟩ (Nat.le_of_ble_eq_true rfl) rfl rfl ?_
  refine sp_X5_in _ _ _ ?_
  rw [wi_ok h1 h2]
  refine ok_if_ne (tgt := 26) dX5_on_16 (by decide) (fun _ => ?_) (fun c9 => absurd c9 (by decide))
  refine ok_aload_n dX5_on_26 rfl rfl ?_
  refine ok_getR dX5_on_27 f_X5_7 (by first | exact is_lit hv (by decide) rfl | exact is_sq hv hq | exact is_row hv hq | exact is_pn hv hq (by assumption) | assumption) rfl (by first | exact rf hv rfl | exact rf_row hv hq | assumption) ?_
  refine ok_iconst (v := 5) dX5_on_30 (by decide) ?_
  refine ok_iaload dX5_on_31 (is_lit hv (by decide) rfl) (by unfold vp_in; decide) ?_
  rw [show hI h 50 (Int32.toNatClampNeg 5) = r 5 from R.2.2.1 5 (by decide)]
  refine ok_iload_n dX5_on_32 rfl rfl ?_
  refine ok_iadd dX5_on_33 ?_
  refine ok_sipush (v := 9999) dX5_on_34 (by decide) ?_
  refine ok_icmp_le (tgt := 47) dX5_on_37 (by decide) (fun c9 => absurd c9 hs) (fun _ => ?_)
  refine ok_aload_n dX5_on_40 rfl rfl ?_
  refine ok_ldc dX5_on_41 w_938 ?_
  refine ok_callV (M' := mX5_finds) (b' := (0, 0)) (As := [_]) (cx := 5) dX5_on_43 iX5_finds w_850 (by decide) rfl (by first | exact is_lit hv (by decide) rfl | exact is_sq hv hq | exact is_row hv hq | exact is_pn hv hq (by assumption) | assumption) rfl (Nat.le_of_ble_eq_true rfl) ⟨Nat.le_of_ble_eq_true rfl, Nat.le_of_ble_eq_true rfl⟩ (Nat.le_of_ble_eq_true rfl) rfl rfl ?_
  refine sp_X5_finds hv (k := 4) (by decide) (by decide) ?_
  refine ok_ireturn dX5_on_46 rfl rfl ?_
  first | exact K | (simp only [↓reduceIte] at K; exact K)
theorem lp_X5_on_61 {g : GG} {h0 : Hp} {Post : Option Value → Hp → Prop} (hv0 : Inv h0) {n : Nat} {r : Nat → Int32} (G0 : RG r n) (R0 : RM 50 h0 n r) {j : Nat} (hj : j < n) {m : Nat} (hm : m ≤ 200) (K : ∀ h', QL h0 h' → RM 50 h' n r → Post (some (.int (ro (w_hrs r n m) j 5))) h') : ∀ (k i : Nat) (h : Hp), i + k = m → QM (cpI h0 50 54 77) h → RM 50 h n (w_hrs r n i) → Go g mX5_on 61 [some (.ref 49), some (.int (nI j)), some (.int (nI m)), some (.int (w_fls r n i)), some (.int (nI i))] [] h (0, 0) Post := by
  intro k
  induction k with
  | zero =>
    intro i h hik M R
    obtain rfl : i = m := by omega
    have hv : Inv h := M.inv (show Inv (cpI h0 50 54 77) from hv0)
    refine ok_iload dX5_on_61 rfl ?_
    refine ok_iload_n dX5_on_63 rfl rfl ?_
    refine ok_icmp_ge (tgt := 80) dX5_on_64 (by decide) (fun _ => ?_) (fun c9 => absurd (nI_le (Nat.le_refl _) (by omega)) c9)
    refine ok_aload_n dX5_on_80 rfl rfl ?_
    refine ok_iload_n dX5_on_81 rfl rfl ?_
    refine ok_iconst (v := 5) dX5_on_82 (by decide) ?_
    refine ok_callV (M' := mX5_its) (b' := (0, 0)) (As := [_, _]) (cx := 5) dX5_on_83 iX5_its w_871 (by decide) rfl (by first | exact is_lit hv (by decide) rfl | exact is_sq hv hq | exact is_row hv hq | exact is_pn hv hq (by assumption) | assumption) rfl (Nat.le_of_ble_eq_true rfl) ⟨Nat.le_of_ble_eq_true rfl, Nat.le_of_ble_eq_true rfl⟩ (Nat.le_of_ble_eq_true rfl) rfl rfl ?_
    refine sp_X5_its (f := 5) hv R hj (by decide) ?_
    refine ok_istore (lo' := [_, _, _, _, _]) dX5_on_86 (Nat.le_of_ble_eq_true rfl) rfl rfl ?_
    refine ok_aload_n dX5_on_88 rfl rfl ?_
    refine ok_iconst (v := 0) dX5_on_89 (by decide) ?_
    refine ok_aload_n dX5_on_90 rfl rfl ?_
    refine ok_getR dX5_on_91 f_X5_22 (by first | exact is_lit hv (by decide) rfl | exact is_sq hv hq | exact is_row hv hq | exact is_pn hv hq (by assumption) | assumption) rfl (by first | exact rf hv rfl | exact rf_row hv hq | assumption) ?_
    refine ok_callV (M' := mX5_moveAll) (b' := (0, 0)) (As := [_, _]) (cx := 5) dX5_on_94 iX5_moveAll w_992 (by decide) rfl (by first | exact is_lit hv (by decide) rfl | exact is_sq hv hq | exact is_row hv hq | exact is_pn hv hq (by assumption) | assumption) rfl (Nat.le_of_ble_eq_true rfl) ⟨Nat.le_of_ble_eq_true rfl, Nat.le_of_ble_eq_true rfl⟩ (Nat.le_of_ble_eq_true rfl) rfl rfl ?_
    have e54 : RM 54 h n r := (R0.cp (d := 54)).fr (M.2.1 54 (by decide) (by decide) (by decide) (by decide))
    refine sp_X5_moveAll_r hv sto1 ?_
    have ML : QL h0 (cpI h 54 50 77) := ((QL.cp (Or.inr (Or.inl rfl))).tr M.ql).tr (QL.cp (Or.inl rfl))
    have RL : RM 50 (cpI h 54 50 77) n r := e54.cp
    refine ok_iload_n dX5_on_97 rfl rfl ?_
    refine ok_if_ge (tgt := 105) dX5_on_98 (by decide) (fun _ => ?_) (fun c9 => absurd (by have := (fls_in (r := r) R.1 i (by omega)).1; rw [i_le]; exact this) c9)
    refine ok_iload dX5_on_105 rfl ?_
    refine ok_ireturn dX5_on_107 rfl rfl ?_
    exact K _ ML RL
  | succ k ih =>
    intro i h hik M R
    have hi : i < m := by omega
    have hv : Inv h := M.inv (show Inv (cpI h0 50 54 77) from hv0)
    have G := G0.hrs i
    refine ok_iload dX5_on_61 rfl ?_
    refine ok_iload_n dX5_on_63 rfl rfl ?_
    refine ok_icmp_ge (tgt := 80) dX5_on_64 (by decide) (fun c9 => absurd c9 (nI_ge hi (by omega))) (fun _ => ?_)
    refine ok_iload_n dX5_on_67 rfl rfl ?_
    refine ok_aload_n dX5_on_68 rfl rfl ?_
    refine ok_callV (M' := mX5_anHour) (b' := (0, 0)) (As := []) (cx := 5) dX5_on_69 iX5_anHour w_939 (by decide) rfl (by first | exact is_lit hv (by decide) rfl | exact is_sq hv hq | exact is_row hv hq | exact is_pn hv hq (by assumption) | assumption) rfl (Nat.le_of_ble_eq_true rfl) ⟨Nat.le_of_ble_eq_true rfl, Nat.le_of_ble_eq_true rfl⟩ (Nat.le_of_ble_eq_true rfl) rfl rfl ?_
    refine sp_X5_anHour hv R G (fun h1 M1 R1 => ?_)
    refine ok_iadd dX5_on_72 ?_
    refine ok_istore_n (lo' := [_, _, _, _, _]) dX5_on_73 rfl (Nat.le_of_ble_eq_true rfl) rfl rfl ?_
    refine ok_iinc (v := _ + 1) (lo' := [_, _, _, _, _]) dX5_on_74 rfl rfl (Nat.le_of_ble_eq_true rfl) rfl rfl ?_
    refine ok_goto (tgt := 61) dX5_on_77 (by decide) ?_
    rw [nI_1]
    exact ih (i + 1) h1 (by omega) (M.tr M1) R1
theorem sp_X5_on {g : GG} {h : Hp} {Post : Option Value → Hp → Prop} (hv : Inv h) {n : Nat} {r : Nat → Int32} (R : RM 50 h n r) (G : RG r n) {j : Nat} (hj : j < n) {m : Nat} (hm : m ≤ 200) (hs : r 5 + nI m ≤ 9999) (K : ∀ h', QL h h' → RM 50 h' n r → Post (some (.int (ro (w_hrs r n m) j 5))) h') : Sp g mX5_on [.ref 49, .int (nI j), .int (nI m)] h Post := by
  show Go g mX5_on 0 [_, _, _, _, _] [] _ _ _
  refine ok_aload_n dX5_on_0 rfl rfl ?_
  refine ok_iload_n dX5_on_1 rfl rfl ?_
  refine ok_callV (M' := mX5_isOne) (b' := (0, 0)) (As := [_]) (cx := 5) dX5_on_2 iX5_isOne w_867 (by decide) rfl (by first | exact is_lit hv (by decide) rfl | exact is_sq hv hq | exact is_row hv hq | exact is_pn hv hq (by assumption) | assumption) rfl (Nat.le_of_ble_eq_true rfl) ⟨Nat.le_of_ble_eq_true rfl, Nat.le_of_ble_eq_true rfl⟩ (Nat.le_of_ble_eq_true rfl) rfl rfl ?_
  refine sp_X5_isOne hv R _ ?_
  rw [one_ok R.1 hj]
  refine ok_if_eq (tgt := 19) dX5_on_5 (by decide) (fun c9 => absurd c9 (by decide)) (fun _ => ?_)
  refine ok_iload_n dX5_on_8 rfl rfl ?_
  refine ok_iconst (v := 0) dX5_on_9 (by decide) ?_
  refine ok_sipush (v := 200) dX5_on_10 (by decide) ?_
  refine ok_callS (M' := mX5_in) (b' := (0, 0)) (As := [_, _, _]) dX5_on_13 iX5_in w_846 rfl (Nat.le_of_ble_eq_true rfl) ⟨Nat.le_of_ble_eq_true rfl, Nat.le_of_ble_eq_true rfl⟩ (Nat.le_of_ble_eq_true rfl) rfl rfl ?_
  refine sp_X5_in _ _ _ ?_
  rw [wi_ok (v := nI m) (l := 0) (u := 200) (nI_pos (by omega)) (nI_nlt (a := 200) (b := m) hm (by omega))]
  refine ok_if_ne (tgt := 26) dX5_on_16 (by decide) (fun _ => ?_) (fun c9 => absurd c9 (by decide))
  refine ok_aload_n dX5_on_26 rfl rfl ?_
  refine ok_getR dX5_on_27 f_X5_7 (by first | exact is_lit hv (by decide) rfl | exact is_sq hv hq | exact is_row hv hq | exact is_pn hv hq (by assumption) | assumption) rfl (by first | exact rf hv rfl | exact rf_row hv hq | assumption) ?_
  refine ok_iconst (v := 5) dX5_on_30 (by decide) ?_
  refine ok_iaload dX5_on_31 (is_lit hv (by decide) rfl) (by unfold vp_in; decide) ?_
  rw [show hI h 50 (Int32.toNatClampNeg 5) = r 5 from R.2.2.1 5 (by decide)]
  refine ok_iload_n dX5_on_32 rfl rfl ?_
  refine ok_iadd dX5_on_33 ?_
  refine ok_sipush (v := 9999) dX5_on_34 (by decide) ?_
  refine ok_icmp_le (tgt := 47) dX5_on_37 (by decide) (fun _ => ?_) (fun c9 => absurd hs c9)
  refine ok_aload_n dX5_on_47 rfl rfl ?_
  refine ok_iconst (v := 1) dX5_on_48 (by decide) ?_
  refine ok_aload_n dX5_on_49 rfl rfl ?_
  refine ok_getR dX5_on_50 f_X5_22 (by first | exact is_lit hv (by decide) rfl | exact is_sq hv hq | exact is_row hv hq | exact is_pn hv hq (by assumption) | assumption) rfl (by first | exact rf hv rfl | exact rf_row hv hq | assumption) ?_
  refine ok_callV (M' := mX5_moveAll) (b' := (0, 0)) (As := [_, _]) (cx := 5) dX5_on_53 iX5_moveAll w_992 (by decide) rfl (by first | exact is_lit hv (by decide) rfl | exact is_sq hv hq | exact is_row hv hq | exact is_pn hv hq (by assumption) | assumption) rfl (Nat.le_of_ble_eq_true rfl) ⟨Nat.le_of_ble_eq_true rfl, Nat.le_of_ble_eq_true rfl⟩ (Nat.le_of_ble_eq_true rfl) rfl rfl ?_
  refine sp_X5_moveAll_k hv sto1 ?_
  refine ok_iconst (v := 0) dX5_on_56 (by decide) ?_
  refine ok_istore_n (lo' := [_, _, _, _, _]) dX5_on_57 rfl (Nat.le_of_ble_eq_true rfl) rfl rfl ?_
  refine ok_iconst (v := 0) dX5_on_58 (by decide) ?_
  refine ok_istore (lo' := [_, _, _, _, _]) dX5_on_59 (Nat.le_of_ble_eq_true rfl) rfl rfl ?_
  exact lp_X5_on_61 hv G R hj hm K m 0 _ (by omega) QM.rf (R.cs (by decide))
theorem sp_X5_empty_s {g : GG} {h : Hp} {Post : Option Value → Hp → Prop} (hv : Inv h) {n : Nat} {r : Nat → Int32} (R : RM 50 h n r) (hs : ¬ r 5 ≤ 9799) (K : Post (some (.int (-1000000005))) (hfm h 4)) : Sp g mX5_empty [.ref 49] h Post := by
  show Go g mX5_empty 0 [_, _, _] [] _ _ _
  refine ok_aload_n dX5_empty_0 rfl rfl ?_
  refine ok_getR dX5_empty_1 f_X5_7 (by first | exact is_lit hv (by decide) rfl | exact is_sq hv hq | exact is_row hv hq | exact is_pn hv hq (by assumption) | assumption) rfl (by first | exact rf hv rfl | exact rf_row hv hq | assumption) ?_
  refine ok_iconst (v := 5) dX5_empty_4 (by decide) ?_
  refine ok_iaload dX5_empty_5 (is_lit hv (by decide) rfl) (by unfold vp_in; decide) ?_
  rw [show hI h 50 (Int32.toNatClampNeg 5) = r 5 from R.2.2.1 5 (by decide)]
  refine ok_sipush (v := 9799) dX5_empty_6 (by decide) ?_
  refine ok_icmp_le (tgt := 19) dX5_empty_9 (by decide) (fun c9 => absurd c9 hs) (fun _ => ?_)
  refine ok_aload_n dX5_empty_12 rfl rfl ?_
  refine ok_ldc dX5_empty_13 w_938 ?_
  refine ok_callV (M' := mX5_finds) (b' := (0, 0)) (As := [_]) (cx := 5) dX5_empty_15 iX5_finds w_850 (by decide) rfl (by first | exact is_lit hv (by decide) rfl | exact is_sq hv hq | exact is_row hv hq | exact is_pn hv hq (by assumption) | assumption) rfl (Nat.le_of_ble_eq_true rfl) ⟨Nat.le_of_ble_eq_true rfl, Nat.le_of_ble_eq_true rfl⟩ (Nat.le_of_ble_eq_true rfl) rfl rfl ?_
  refine sp_X5_finds hv (k := 4) (by decide) (by decide) ?_
  refine ok_ireturn dX5_empty_18 rfl rfl ?_
  first | exact K | (simp only [↓reduceIte] at K; exact K)
theorem lp_X5_empty_32 {g : GG} {h0 : Hp} {Post : Option Value → Hp → Prop} (hv0 : Inv h0) {n : Nat} {r : Nat → Int32} (G0 : RG r n) (R0 : RM 50 h0 n r) {m : Nat} (hm : m ≤ 200) (he : w_emp r n m = 0) (hne : ∀ k, k < m → ¬ w_emp r n k = 0) (K : ∀ h', QL h0 h' → RM 50 h' n r → Post (some (.int (nI m))) h') : ∀ (k i : Nat) (h : Hp), i + k = m → QM (cpI h0 50 54 77) h → RM 50 h n (w_hrs r n i) → Go g mX5_empty 32 [some (.ref 49), some (.int (nI i)), some (.int (w_fls r n i))] [] h (0, 0) Post := by
  intro k
  induction k with
  | zero =>
    intro i h hik M R
    obtain rfl : i = m := by omega
    have hv : Inv h := M.inv (show Inv (cpI h0 50 54 77) from hv0)
    refine ok_iload_n dX5_empty_32 rfl rfl ?_
    refine ok_sipush (v := 200) dX5_empty_33 (by decide) ?_
    refine ok_icmp_gt (tgt := 60) dX5_empty_36 (by decide) (fun c9 => absurd c9 (nI_nlt (a := 200) (b := i) hm (by omega))) (fun _ => ?_)
    refine ok_aload_n dX5_empty_39 rfl rfl ?_
    refine ok_iconst (v := 1) dX5_empty_40 (by decide) ?_
    refine ok_callV (M' := mX5_sumOf) (b' := (0, 0)) (As := [_]) (cx := 5) dX5_empty_41 iX5_sumOf w_956 (by decide) rfl (by first | exact is_lit hv (by decide) rfl | exact is_sq hv hq | exact is_row hv hq | exact is_pn hv hq (by assumption) | assumption) rfl (Nat.le_of_ble_eq_true rfl) ⟨Nat.le_of_ble_eq_true rfl, Nat.le_of_ble_eq_true rfl⟩ (Nat.le_of_ble_eq_true rfl) rfl rfl ?_
    refine sp_X5_sumOf (f := 1) hv R (by decide) ?_
    refine ok_if_le (tgt := 60) dX5_empty_44 (by decide) (fun _ => ?_) (fun c9 => absurd (emp_ok he) c9)
    refine ok_aload_n dX5_empty_60 rfl rfl ?_
    refine ok_iconst (v := 0) dX5_empty_61 (by decide) ?_
    refine ok_aload_n dX5_empty_62 rfl rfl ?_
    refine ok_getR dX5_empty_63 f_X5_22 (by first | exact is_lit hv (by decide) rfl | exact is_sq hv hq | exact is_row hv hq | exact is_pn hv hq (by assumption) | assumption) rfl (by first | exact rf hv rfl | exact rf_row hv hq | assumption) ?_
    refine ok_callV (M' := mX5_moveAll) (b' := (0, 0)) (As := [_, _]) (cx := 5) dX5_empty_66 iX5_moveAll w_992 (by decide) rfl (by first | exact is_lit hv (by decide) rfl | exact is_sq hv hq | exact is_row hv hq | exact is_pn hv hq (by assumption) | assumption) rfl (Nat.le_of_ble_eq_true rfl) ⟨Nat.le_of_ble_eq_true rfl, Nat.le_of_ble_eq_true rfl⟩ (Nat.le_of_ble_eq_true rfl) rfl rfl ?_
    have e54 : RM 54 h n r := (R0.cp (d := 54)).fr (M.2.1 54 (by decide) (by decide) (by decide) (by decide))
    refine sp_X5_moveAll_r hv sto1 ?_
    have ML : QL h0 (cpI h 54 50 77) := ((QL.cp (Or.inr (Or.inl rfl))).tr M.ql).tr (QL.cp (Or.inl rfl))
    have RL : RM 50 (cpI h 54 50 77) n r := e54.cp
    refine ok_iload_n dX5_empty_69 rfl rfl ?_
    refine ok_sipush (v := 200) dX5_empty_70 (by decide) ?_
    refine ok_icmp_le (tgt := 85) dX5_empty_73 (by decide) (fun _ => ?_) (fun c9 => absurd (nI_le (a := i) (b := 200) hm (by omega)) c9)
    refine ok_iload_n dX5_empty_85 rfl rfl ?_
    refine ok_ireturn dX5_empty_86 rfl rfl ?_
    exact K _ ML RL
  | succ k ih =>
    intro i h hik M R
    have hi : i < m := by omega
    have hv : Inv h := M.inv (show Inv (cpI h0 50 54 77) from hv0)
    have G := G0.hrs i
    refine ok_iload_n dX5_empty_32 rfl rfl ?_
    refine ok_sipush (v := 200) dX5_empty_33 (by decide) ?_
    refine ok_icmp_gt (tgt := 60) dX5_empty_36 (by decide) (fun c9 => absurd c9 (nI_nlt (a := 200) (b := i) (by omega) (by omega))) (fun _ => ?_)
    refine ok_aload_n dX5_empty_39 rfl rfl ?_
    refine ok_iconst (v := 1) dX5_empty_40 (by decide) ?_
    refine ok_callV (M' := mX5_sumOf) (b' := (0, 0)) (As := [_]) (cx := 5) dX5_empty_41 iX5_sumOf w_956 (by decide) rfl (by first | exact is_lit hv (by decide) rfl | exact is_sq hv hq | exact is_row hv hq | exact is_pn hv hq (by assumption) | assumption) rfl (Nat.le_of_ble_eq_true rfl) ⟨Nat.le_of_ble_eq_true rfl, Nat.le_of_ble_eq_true rfl⟩ (Nat.le_of_ble_eq_true rfl) rfl rfl ?_
    refine sp_X5_sumOf (f := 1) hv R (by decide) ?_
    refine ok_if_le (tgt := 60) dX5_empty_44 (by decide) (fun c9 => absurd c9 (emp_no G0 (hne i hi))) (fun _ => ?_)
    refine ok_iload_n dX5_empty_47 rfl rfl ?_
    refine ok_aload_n dX5_empty_48 rfl rfl ?_
    refine ok_callV (M' := mX5_anHour) (b' := (0, 0)) (As := []) (cx := 5) dX5_empty_49 iX5_anHour w_939 (by decide) rfl (by first | exact is_lit hv (by decide) rfl | exact is_sq hv hq | exact is_row hv hq | exact is_pn hv hq (by assumption) | assumption) rfl (Nat.le_of_ble_eq_true rfl) ⟨Nat.le_of_ble_eq_true rfl, Nat.le_of_ble_eq_true rfl⟩ (Nat.le_of_ble_eq_true rfl) rfl rfl ?_
    refine sp_X5_anHour hv R G (fun h1 M1 R1 => ?_)
    refine ok_iadd dX5_empty_52 ?_
    refine ok_istore_n (lo' := [_, _, _]) dX5_empty_53 rfl (Nat.le_of_ble_eq_true rfl) rfl rfl ?_
    refine ok_iinc (v := _ + 1) (lo' := [_, _, _]) dX5_empty_54 rfl rfl (Nat.le_of_ble_eq_true rfl) rfl rfl ?_
    refine ok_goto (tgt := 32) dX5_empty_57 (by decide) ?_
    rw [nI_1]
    exact ih (i + 1) h1 (by omega) (M.tr M1) R1
theorem lp_X5_empty_32n {g : GG} {h0 : Hp} {Post : Option Value → Hp → Prop} (hv0 : Inv h0) {n : Nat} {r : Nat → Int32} (G0 : RG r n) (R0 : RM 50 h0 n r) (hne : ∀ k, k < 201 → ¬ w_emp r n k = 0) (K : ∀ h', QL h0 h' → RM 50 h' n r → Post (some (.int (-1000000004))) (hfm h' 3)) : ∀ (k i : Nat) (h : Hp), i + k = 201 → QM (cpI h0 50 54 77) h → RM 50 h n (w_hrs r n i) → Go g mX5_empty 32 [some (.ref 49), some (.int (nI i)), some (.int (w_fls r n i))] [] h (0, 0) Post := by
  intro k
  induction k with
  | zero =>
    intro i h hik M R
    obtain rfl : i = 201 := by omega
    have hv : Inv h := M.inv (show Inv (cpI h0 50 54 77) from hv0)
    refine ok_iload_n dX5_empty_32 rfl rfl ?_
    refine ok_sipush (v := 200) dX5_empty_33 (by decide) ?_
    refine ok_icmp_gt (tgt := 60) dX5_empty_36 (by decide) (fun _ => ?_) (fun c9 => absurd (by decide) c9)
    refine ok_aload_n dX5_empty_60 rfl rfl ?_
    refine ok_iconst (v := 0) dX5_empty_61 (by decide) ?_
    refine ok_aload_n dX5_empty_62 rfl rfl ?_
    refine ok_getR dX5_empty_63 f_X5_22 (by first | exact is_lit hv (by decide) rfl | exact is_sq hv hq | exact is_row hv hq | exact is_pn hv hq (by assumption) | assumption) rfl (by first | exact rf hv rfl | exact rf_row hv hq | assumption) ?_
    refine ok_callV (M' := mX5_moveAll) (b' := (0, 0)) (As := [_, _]) (cx := 5) dX5_empty_66 iX5_moveAll w_992 (by decide) rfl (by first | exact is_lit hv (by decide) rfl | exact is_sq hv hq | exact is_row hv hq | exact is_pn hv hq (by assumption) | assumption) rfl (Nat.le_of_ble_eq_true rfl) ⟨Nat.le_of_ble_eq_true rfl, Nat.le_of_ble_eq_true rfl⟩ (Nat.le_of_ble_eq_true rfl) rfl rfl ?_
    have e54 : RM 54 h n r := (R0.cp (d := 54)).fr (M.2.1 54 (by decide) (by decide) (by decide) (by decide))
    refine sp_X5_moveAll_r hv sto1 ?_
    have ML : QL h0 (cpI h 54 50 77) := ((QL.cp (Or.inr (Or.inl rfl))).tr M.ql).tr (QL.cp (Or.inl rfl))
    have RL : RM 50 (cpI h 54 50 77) n r := e54.cp
    have hv : Inv (cpI h 54 50 77) := hv
    refine ok_iload_n dX5_empty_69 rfl rfl ?_
    refine ok_sipush (v := 200) dX5_empty_70 (by decide) ?_
    refine ok_icmp_le (tgt := 85) dX5_empty_73 (by decide) (fun c9 => absurd c9 (by decide)) (fun _ => ?_)
    refine ok_aload_n dX5_empty_76 rfl rfl ?_
    refine ok_ldc dX5_empty_77 w_1000 ?_
    refine ok_callV (M' := mX5_finds) (b' := (0, 0)) (As := [_]) (cx := 5) dX5_empty_79 iX5_finds w_850 (by decide) rfl (by first | exact is_lit hv (by decide) rfl | exact is_sq hv hq | exact is_row hv hq | exact is_pn hv hq (by assumption) | assumption) rfl (Nat.le_of_ble_eq_true rfl) ⟨Nat.le_of_ble_eq_true rfl, Nat.le_of_ble_eq_true rfl⟩ (Nat.le_of_ble_eq_true rfl) rfl rfl ?_
    refine sp_X5_finds hv (k := 3) (by decide) (by decide) ?_
    refine ok_goto (tgt := 86) dX5_empty_82 (by decide) ?_
    refine ok_ireturn dX5_empty_86 rfl rfl ?_
    exact K _ ML RL
  | succ k ih =>
    intro i h hik M R
    have hi : i < 201 := by omega
    have hv : Inv h := M.inv (show Inv (cpI h0 50 54 77) from hv0)
    have G := G0.hrs i
    refine ok_iload_n dX5_empty_32 rfl rfl ?_
    refine ok_sipush (v := 200) dX5_empty_33 (by decide) ?_
    refine ok_icmp_gt (tgt := 60) dX5_empty_36 (by decide) (fun c9 => absurd c9 (nI_nlt (a := 200) (b := i) (by omega) (by omega))) (fun _ => ?_)
    refine ok_aload_n dX5_empty_39 rfl rfl ?_
    refine ok_iconst (v := 1) dX5_empty_40 (by decide) ?_
    refine ok_callV (M' := mX5_sumOf) (b' := (0, 0)) (As := [_]) (cx := 5) dX5_empty_41 iX5_sumOf w_956 (by decide) rfl (by first | exact is_lit hv (by decide) rfl | exact is_sq hv hq | exact is_row hv hq | exact is_pn hv hq (by assumption) | assumption) rfl (Nat.le_of_ble_eq_true rfl) ⟨Nat.le_of_ble_eq_true rfl, Nat.le_of_ble_eq_true rfl⟩ (Nat.le_of_ble_eq_true rfl) rfl rfl ?_
    refine sp_X5_sumOf (f := 1) hv R (by decide) ?_
    refine ok_if_le (tgt := 60) dX5_empty_44 (by decide) (fun c9 => absurd c9 (emp_no G0 (hne i hi))) (fun _ => ?_)
    refine ok_iload_n dX5_empty_47 rfl rfl ?_
    refine ok_aload_n dX5_empty_48 rfl rfl ?_
    refine ok_callV (M' := mX5_anHour) (b' := (0, 0)) (As := []) (cx := 5) dX5_empty_49 iX5_anHour w_939 (by decide) rfl (by first | exact is_lit hv (by decide) rfl | exact is_sq hv hq | exact is_row hv hq | exact is_pn hv hq (by assumption) | assumption) rfl (Nat.le_of_ble_eq_true rfl) ⟨Nat.le_of_ble_eq_true rfl, Nat.le_of_ble_eq_true rfl⟩ (Nat.le_of_ble_eq_true rfl) rfl rfl ?_
    refine sp_X5_anHour hv R G (fun h1 M1 R1 => ?_)
    refine ok_iadd dX5_empty_52 ?_
    refine ok_istore_n (lo' := [_, _, _]) dX5_empty_53 rfl (Nat.le_of_ble_eq_true rfl) rfl rfl ?_
    refine ok_iinc (v := _ + 1) (lo' := [_, _, _]) dX5_empty_54 rfl rfl (Nat.le_of_ble_eq_true rfl) rfl rfl ?_
    refine ok_goto (tgt := 32) dX5_empty_57 (by decide) ?_
    rw [nI_1]
    exact ih (i + 1) h1 (by omega) (M.tr M1) R1
theorem sp_X5_empty {g : GG} {h : Hp} {Post : Option Value → Hp → Prop} (hv : Inv h) {n : Nat} {r : Nat → Int32} (R : RM 50 h n r) (G : RG r n) (hs : r 5 ≤ 9799) {m : Nat} (hm : m ≤ 200) (he : w_emp r n m = 0) (hne : ∀ k, k < m → ¬ w_emp r n k = 0) (K : ∀ h', QL h h' → RM 50 h' n r → Post (some (.int (nI m))) h') : Sp g mX5_empty [.ref 49] h Post := by
  show Go g mX5_empty 0 [_, _, _] [] _ _ _
  refine ok_aload_n dX5_empty_0 rfl rfl ?_
  refine ok_getR dX5_empty_1 f_X5_7 (by first | exact is_lit hv (by decide) rfl | exact is_sq hv hq | exact is_row hv hq | exact is_pn hv hq (by assumption) | assumption) rfl (by first | exact rf hv rfl | exact rf_row hv hq | assumption) ?_
  refine ok_iconst (v := 5) dX5_empty_4 (by decide) ?_
  refine ok_iaload dX5_empty_5 (is_lit hv (by decide) rfl) (by unfold vp_in; decide) ?_
  rw [show hI h 50 (Int32.toNatClampNeg 5) = r 5 from R.2.2.1 5 (by decide)]
  refine ok_sipush (v := 9799) dX5_empty_6 (by decide) ?_
  refine ok_icmp_le (tgt := 19) dX5_empty_9 (by decide) (fun _ => ?_) (fun c9 => absurd hs c9)
  refine ok_aload_n dX5_empty_19 rfl rfl ?_
  refine ok_iconst (v := 1) dX5_empty_20 (by decide) ?_
  refine ok_aload_n dX5_empty_21 rfl rfl ?_
  refine ok_getR dX5_empty_22 f_X5_22 (by first | exact is_lit hv (by decide) rfl | exact is_sq hv hq | exact is_row hv hq | exact is_pn hv hq (by assumption) | assumption) rfl (by first | exact rf hv rfl | exact rf_row hv hq | assumption) ?_
  refine ok_callV (M' := mX5_moveAll) (b' := (0, 0)) (As := [_, _]) (cx := 5) dX5_empty_25 iX5_moveAll w_992 (by decide) rfl (by first | exact is_lit hv (by decide) rfl | exact is_sq hv hq | exact is_row hv hq | exact is_pn hv hq (by assumption) | assumption) rfl (Nat.le_of_ble_eq_true rfl) ⟨Nat.le_of_ble_eq_true rfl, Nat.le_of_ble_eq_true rfl⟩ (Nat.le_of_ble_eq_true rfl) rfl rfl ?_
  refine sp_X5_moveAll_k hv sto1 ?_
  refine ok_iconst (v := 0) dX5_empty_28 (by decide) ?_
  refine ok_istore_n (lo' := [_, _, _]) dX5_empty_29 rfl (Nat.le_of_ble_eq_true rfl) rfl rfl ?_
  refine ok_iconst (v := 0) dX5_empty_30 (by decide) ?_
  refine ok_istore_n (lo' := [_, _, _]) dX5_empty_31 rfl (Nat.le_of_ble_eq_true rfl) rfl rfl ?_
  exact lp_X5_empty_32 hv G R hm he hne K m 0 _ (by omega) QM.rf (R.cs (by decide))
theorem sp_X5_empty_n {g : GG} {h : Hp} {Post : Option Value → Hp → Prop} (hv : Inv h) {n : Nat} {r : Nat → Int32} (R : RM 50 h n r) (G : RG r n) (hs : r 5 ≤ 9799) (hne : ∀ k, k < 201 → ¬ w_emp r n k = 0) (K : ∀ h', QL h h' → RM 50 h' n r → Post (some (.int (-1000000004))) (hfm h' 3)) : Sp g mX5_empty [.ref 49] h Post := by
  show Go g mX5_empty 0 [_, _, _] [] _ _ _
  refine ok_aload_n dX5_empty_0 rfl rfl ?_
  refine ok_getR dX5_empty_1 f_X5_7 (by first | exact is_lit hv (by decide) rfl | exact is_sq hv hq | exact is_row hv hq | exact is_pn hv hq (by assumption) | assumption) rfl (by first | exact rf hv rfl | exact rf_row hv hq | assumption) ?_
  refine ok_iconst (v := 5) dX5_empty_4 (by decide) ?_
  refine ok_iaload dX5_empty_5 (is_lit hv (by decide) rfl) (by unfold vp_in; decide) ?_
  rw [show hI h 50 (Int32.toNatClampNeg 5) = r 5 from R.2.2.1 5 (by decide)]
  refine ok_sipush (v := 9799) dX5_empty_6 (by decide) ?_
  refine ok_icmp_le (tgt := 19) dX5_empty_9 (by decide) (fun _ => ?_) (fun c9 => absurd hs c9)
  refine ok_aload_n dX5_empty_19 rfl rfl ?_
  refine ok_iconst (v := 1) dX5_empty_20 (by decide) ?_
  refine ok_aload_n dX5_empty_21 rfl rfl ?_
  refine ok_getR dX5_empty_22 f_X5_22 (by first | exact is_lit hv (by decide) rfl | exact is_sq hv hq | exact is_row hv hq | exact is_pn hv hq (by assumption) | assumption) rfl (by first | exact rf hv rfl | exact rf_row hv hq | assumption) ?_
  refine ok_callV (M' := mX5_moveAll) (b' := (0, 0)) (As := [_, _]) (cx := 5) dX5_empty_25 iX5_moveAll w_992 (by decide) rfl (by first | exact is_lit hv (by decide) rfl | exact is_sq hv hq | exact is_row hv hq | exact is_pn hv hq (by assumption) | assumption) rfl (Nat.le_of_ble_eq_true rfl) ⟨Nat.le_of_ble_eq_true rfl, Nat.le_of_ble_eq_true rfl⟩ (Nat.le_of_ble_eq_true rfl) rfl rfl ?_
  refine sp_X5_moveAll_k hv sto1 ?_
  refine ok_iconst (v := 0) dX5_empty_28 (by decide) ?_
  refine ok_istore_n (lo' := [_, _, _]) dX5_empty_29 rfl (Nat.le_of_ble_eq_true rfl) rfl rfl ?_
  refine ok_iconst (v := 0) dX5_empty_30 (by decide) ?_
  refine ok_istore_n (lo' := [_, _, _]) dX5_empty_31 rfl (Nat.le_of_ble_eq_true rfl) rfl rfl ?_
  exact lp_X5_empty_32n hv G R hne K 201 0 _ (by omega) QM.rf (R.cs (by decide))
theorem sp_X5_gainIf_b {g : GG} {h : Hp} {Post : Option Value → Hp → Prop} (hv : Inv h) {n : Nat} {r : Nat → Int32} (R : RM 50 h n r) (p c : Int32) (hb : p < 0 ∨ nI n ≤ p) (K : Post (some (.int (-1000000001))) (hfm h 0)) : Sp g mX5_gainIf [.ref 49, .int p, .int c] h Post := by
  show Go g mX5_gainIf 0 [_, _, _] [] _ _ _
  refine ok_aload_n dX5_gainIf_0 rfl rfl ?_
  refine ok_iload_n dX5_gainIf_1 rfl rfl ?_
  refine ok_callV (M' := mX5_isOne) (b' := (0, 0)) (As := [_]) (cx := 5) dX5_gainIf_2 iX5_isOne w_867 (by decide) rfl (by first | exact is_lit hv (by decide) rfl | exact is_sq hv hq | exact is_row hv hq | exact is_pn hv hq (by assumption) | assumption) rfl (Nat.le_of_ble_eq_true rfl) ⟨Nat.le_of_ble_eq_true rfl, Nat.le_of_ble_eq_true rfl⟩ (Nat.le_of_ble_eq_true rfl) rfl rfl ?_
  refine sp_X5_isOne hv R _ ?_
  rw [one_bad R.1 hb]
  refine ok_if_eq (tgt := 18) dX5_gainIf_5 (by decide) (fun _ => ?_) (fun c9 => absurd rfl c9)
  refine ok_aload_n dX5_gainIf_18 rfl rfl ?_
  refine ok_ldc dX5_gainIf_19 w_849 ?_
  refine ok_callV (M' := mX5_finds) (b' := (0, 0)) (As := [_]) (cx := 5) dX5_gainIf_21 iX5_finds w_850 (by decide) rfl (by first | exact is_lit hv (by decide) rfl | exact is_sq hv hq | exact is_row hv hq | exact is_pn hv hq (by assumption) | assumption) rfl (Nat.le_of_ble_eq_true rfl) ⟨Nat.le_of_ble_eq_true rfl, Nat.le_of_ble_eq_true rfl⟩ (Nat.le_of_ble_eq_true rfl) rfl rfl ?_
  refine sp_X5_finds hv (k := 0) (by decide) (by decide) ?_
  refine ok_ireturn dX5_gainIf_24 rfl rfl ?_
  first | exact K | (simp only [↓reduceIte] at K; exact K)
theorem sp_X5_gainIf_w {g : GG} {h : Hp} {Post : Option Value → Hp → Prop} (hv : Inv h) {n : Nat} {r : Nat → Int32} (R : RM 50 h n r) {j : Nat} (hj : j < n) {c : Int32} (hb : c < 0 ∨ 99 < c) (K : Post (some (.int (-1000000001))) (hfm h 0)) : Sp g mX5_gainIf [.ref 49, .int (nI j), .int c] h Post := by
  show Go g mX5_gainIf 0 [_, _, _] [] _ _ _
  refine ok_aload_n dX5_gainIf_0 rfl rfl ?_
  refine ok_iload_n dX5_gainIf_1 rfl rfl ?_
  refine ok_callV (M' := mX5_isOne) (b' := (0, 0)) (As := [_]) (cx := 5) dX5_gainIf_2 iX5_isOne w_867 (by decide) rfl (by first | exact is_lit hv (by decide) rfl | exact is_sq hv hq | exact is_row hv hq | exact is_pn hv hq (by assumption) | assumption) rfl (Nat.le_of_ble_eq_true rfl) ⟨Nat.le_of_ble_eq_true rfl, Nat.le_of_ble_eq_true rfl⟩ (Nat.le_of_ble_eq_true rfl) rfl rfl ?_
  refine sp_X5_isOne hv R _ ?_
  rw [one_ok R.1 hj]
  refine ok_if_eq (tgt := 18) dX5_gainIf_5 (by decide) (fun c9 => absurd c9 (by decide)) (fun _ => ?_)
  refine ok_iload_n dX5_gainIf_8 rfl rfl ?_
  refine ok_iconst (v := 0) dX5_gainIf_9 (by decide) ?_
  refine ok_bipush (v := 99) dX5_gainIf_10 (by decide) ?_
  refine ok_callS (M' := mX5_in) (b' := (0, 0)) (As := [_, _, _]) dX5_gainIf_12 iX5_in w_846 rfl (Nat.le_of_ble_eq_true rfl) ⟨Nat.le_of_ble_eq_true rfl, Nat.le_of_ble_eq_true rfl⟩ (Nat.le_of_ble_eq_true rfl) rfl rfl ?_
  refine sp_X5_in _ _ _ ?_
  rw [wi_bad hb]
  refine ok_if_ne (tgt := 25) dX5_gainIf_15 (by decide) (fun c9 => absurd c9 (fun c => c rfl)) (fun _ => ?_)
  refine ok_aload_n dX5_gainIf_18 rfl rfl ?_
  refine ok_ldc dX5_gainIf_19 w_849 ?_
  refine ok_callV (M' := mX5_finds) (b' := (0, 0)) (As := [_]) (cx := 5) dX5_gainIf_21 iX5_finds w_850 (by decide) rfl (by first | exact is_lit hv (by decide) rfl | exact is_sq hv hq | exact is_row hv hq | exact is_pn hv hq (by assumption) | assumption) rfl (Nat.le_of_ble_eq_true rfl) ⟨Nat.le_of_ble_eq_true rfl, Nat.le_of_ble_eq_true rfl⟩ (Nat.le_of_ble_eq_true rfl) rfl rfl ?_
  refine sp_X5_finds hv (k := 0) (by decide) (by decide) ?_
  refine ok_ireturn dX5_gainIf_24 rfl rfl ?_
  first | exact K | (simp only [↓reduceIte] at K; exact K)
theorem sp_X5_gainIf_s {g : GG} {h : Hp} {Post : Option Value → Hp → Prop} (hv : Inv h) {n : Nat} {r : Nat → Int32} (R : RM 50 h n r) {j : Nat} (hj : j < n) {c : Int32} (h1 : ¬ c < 0) (h2 : ¬ 99 < c) (hs : ¬ c ≤ ro r j 1) (K : Post (some (.int (-1000000005))) (hfm h 4)) : Sp g mX5_gainIf [.ref 49, .int (nI j), .int c] h Post := by
  show Go g mX5_gainIf 0 [_, _, _] [] _ _ _
  refine ok_aload_n dX5_gainIf_0 rfl rfl ?_
  refine ok_iload_n dX5_gainIf_1 rfl rfl ?_
  refine ok_callV (M' := mX5_isOne) (b' := (0, 0)) (As := [_]) (cx := 5) dX5_gainIf_2 iX5_isOne w_867 (by decide) rfl (by first | exact is_lit hv (by decide) rfl | exact is_sq hv hq | exact is_row hv hq | exact is_pn hv hq (by assumption) | assumption) rfl (Nat.le_of_ble_eq_true rfl) ⟨Nat.le_of_ble_eq_true rfl, Nat.le_of_ble_eq_true rfl⟩ (Nat.le_of_ble_eq_true rfl) rfl rfl ?_
  refine sp_X5_isOne hv R _ ?_
  rw [one_ok R.1 hj]
  refine ok_if_eq (tgt := 18) dX5_gainIf_5 (by decide) (fun c9 => absurd c9 (by decide)) (fun _ => ?_)
  refine ok_iload_n dX5_gainIf_8 rfl rfl ?_
  refine ok_iconst (v := 0) dX5_gainIf_9 (by decide) ?_
  refine ok_bipush (v := 99) dX5_gainIf_10 (by decide) ?_
  refine ok_callS (M' := mX5_in) (b' := (0, 0)) (As := [_, _, _]) dX5_gainIf_12 iX5_in w_846 rfl (Nat.le_of_ble_eq_true rfl) ⟨Nat.le_of_ble_eq_true rfl, Nat.le_of_ble_eq_true rfl⟩ (Nat.le_of_ble_eq_true rfl) rfl rfl ?_
  refine sp_X5_in _ _ _ ?_
  rw [wi_ok h1 h2]
  refine ok_if_ne (tgt := 25) dX5_gainIf_15 (by decide) (fun _ => ?_) (fun c9 => absurd c9 (by decide))
  refine ok_iload_n dX5_gainIf_25 rfl rfl ?_
  refine ok_aload_n dX5_gainIf_26 rfl rfl ?_
  refine ok_iload_n dX5_gainIf_27 rfl rfl ?_
  refine ok_iconst (v := 1) dX5_gainIf_28 (by decide) ?_
  refine ok_callV (M' := mX5_its) (b' := (0, 0)) (As := [_, _]) (cx := 5) dX5_gainIf_29 iX5_its w_871 (by decide) rfl (by first | exact is_lit hv (by decide) rfl | exact is_sq hv hq | exact is_row hv hq | exact is_pn hv hq (by assumption) | assumption) rfl (Nat.le_of_ble_eq_true rfl) ⟨Nat.le_of_ble_eq_true rfl, Nat.le_of_ble_eq_true rfl⟩ (Nat.le_of_ble_eq_true rfl) rfl rfl ?_
  refine sp_X5_its (f := 1) hv R hj (by decide) ?_
  refine ok_icmp_le (tgt := 44) dX5_gainIf_32 (by decide) (fun c9 => absurd c9 hs) (fun _ => ?_)
  refine ok_aload_n dX5_gainIf_35 rfl rfl ?_
  refine ok_ldc dX5_gainIf_36 w_938 ?_
  refine ok_callV (M' := mX5_finds) (b' := (0, 0)) (As := [_]) (cx := 5) dX5_gainIf_38 iX5_finds w_850 (by decide) rfl (by first | exact is_lit hv (by decide) rfl | exact is_sq hv hq | exact is_row hv hq | exact is_pn hv hq (by assumption) | assumption) rfl (Nat.le_of_ble_eq_true rfl) ⟨Nat.le_of_ble_eq_true rfl, Nat.le_of_ble_eq_true rfl⟩ (Nat.le_of_ble_eq_true rfl) rfl rfl ?_
  refine sp_X5_finds hv (k := 4) (by decide) (by decide) ?_
  refine ok_goto (tgt := 50) dX5_gainIf_41 (by decide) ?_
  refine ok_ireturn dX5_gainIf_50 rfl rfl ?_
  first | exact K | (simp only [↓reduceIte] at K; exact K)
theorem sp_X5_gainIf {g : GG} {h : Hp} {Post : Option Value → Hp → Prop} (hv : Inv h) {n : Nat} {r : Nat → Int32} (R : RM 50 h n r) (G : RG r n) {j : Nat} (hj : j < n) {c : Int32} (h1 : ¬ c < 0) (h2 : ¬ 99 < c) (hs : c ≤ ro r j 1) (K : ∀ h', TM h h' → Post (some (.int (w_gain r n (nI j) c j))) h') : Sp g mX5_gainIf [.ref 49, .int (nI j), .int c] h Post := by
  show Go g mX5_gainIf 0 [_, _, _] [] _ _ _
  refine ok_aload_n dX5_gainIf_0 rfl rfl ?_
  refine ok_iload_n dX5_gainIf_1 rfl rfl ?_
  refine ok_callV (M' := mX5_isOne) (b' := (0, 0)) (As := [_]) (cx := 5) dX5_gainIf_2 iX5_isOne w_867 (by decide) rfl (by first | exact is_lit hv (by decide) rfl | exact is_sq hv hq | exact is_row hv hq | exact is_pn hv hq (by assumption) | assumption) rfl (Nat.le_of_ble_eq_true rfl) ⟨Nat.le_of_ble_eq_true rfl, Nat.le_of_ble_eq_true rfl⟩ (Nat.le_of_ble_eq_true rfl) rfl rfl ?_
  refine sp_X5_isOne hv R _ ?_
  rw [one_ok R.1 hj]
  refine ok_if_eq (tgt := 18) dX5_gainIf_5 (by decide) (fun c9 => absurd c9 (by decide)) (fun _ => ?_)
  refine ok_iload_n dX5_gainIf_8 rfl rfl ?_
  refine ok_iconst (v := 0) dX5_gainIf_9 (by decide) ?_
  refine ok_bipush (v := 99) dX5_gainIf_10 (by decide) ?_
  refine ok_callS (M' := mX5_in) (b' := (0, 0)) (As := [_, _, _]) dX5_gainIf_12 iX5_in w_846 rfl (Nat.le_of_ble_eq_true rfl) ⟨Nat.le_of_ble_eq_true rfl, Nat.le_of_ble_eq_true rfl⟩ (Nat.le_of_ble_eq_true rfl) rfl rfl ?_
  refine sp_X5_in _ _ _ ?_
  rw [wi_ok h1 h2]
  refine ok_if_ne (tgt := 25) dX5_gainIf_15 (by decide) (fun _ => ?_) (fun c9 => absurd c9 (by decide))
  refine ok_iload_n dX5_gainIf_25 rfl rfl ?_
  refine ok_aload_n dX5_gainIf_26 rfl rfl ?_
  refine ok_iload_n dX5_gainIf_27 rfl rfl ?_
  refine ok_iconst (v := 1) dX5_gainIf_28 (by decide) ?_
  refine ok_callV (M' := mX5_its) (b' := (0, 0)) (As := [_, _]) (cx := 5) dX5_gainIf_29 iX5_its w_871 (by decide) rfl (by first | exact is_lit hv (by decide) rfl | exact is_sq hv hq | exact is_row hv hq | exact is_pn hv hq (by assumption) | assumption) rfl (Nat.le_of_ble_eq_true rfl) ⟨Nat.le_of_ble_eq_true rfl, Nat.le_of_ble_eq_true rfl⟩ (Nat.le_of_ble_eq_true rfl) rfl rfl ?_
  refine sp_X5_its (f := 1) hv R hj (by decide) ?_
  refine ok_icmp_le (tgt := 44) dX5_gainIf_32 (by decide) (fun _ => ?_) (fun c9 => absurd hs c9)
  refine ok_aload_n dX5_gainIf_44 rfl rfl ?_
  refine ok_iload_n dX5_gainIf_45 rfl rfl ?_
  refine ok_iload_n dX5_gainIf_46 rfl rfl ?_
  refine ok_callV (M' := mX5_gainWith) (b' := (0, 0)) (As := [_, _]) (cx := 5) dX5_gainIf_47 iX5_gainWith w_1005 (by decide) rfl (by first | exact is_lit hv (by decide) rfl | exact is_sq hv hq | exact is_row hv hq | exact is_pn hv hq (by assumption) | assumption) rfl (Nat.le_of_ble_eq_true rfl) ⟨Nat.le_of_ble_eq_true rfl, Nat.le_of_ble_eq_true rfl⟩ (Nat.le_of_ble_eq_true rfl) rfl rfl ?_
  refine sp_X5_gainWith hv R G hj _ (fun h1 M1 => ?_)
  refine ok_ireturn dX5_gainIf_50 rfl rfl ?_
  exact K h1 M1
theorem lp_X5_bestOf_12 {g : GG} {h0 : Hp} {Post : Option Value → Hp → Prop} (hv0 : Inv h0) {n : Nat} {r : Nat → Int32} (G : RG r n) (R0 : RM 50 h0 n r) {p : Nat} (hp : p < n) {u : Nat} (hu : u ≤ 999) (eu : ro r p 1 = nI u) {L : Nat} (hL : L = if u < 20 then u else 20) (K : ∀ h', TM h0 h' → Post (some (.int (nI (am (fun c => w_gain r n (nI p) (nI c) p) L).1))) h') : ∀ (k i : Nat) (h : Hp) (x5 : Option Value), i + k = L → TM h0 h → Go g mX5_bestOf 12 [some (.ref 49), some (.int (nI p)), some (.int (nI (am (fun c => w_gain r n (nI p) (nI c) p) i).1)), some (.int (am (fun c => w_gain r n (nI p) (nI c) p) i).2), some (.int (nI (i + 1))), x5] [] h (0, 0) Post := by
  have hL20 : L ≤ 20 := by rw [hL]; split <;> omega
  have hLu : L ≤ u := by rw [hL]; split <;> omega
  intro k
  induction k with
  | zero =>
    intro i h x5 hik M
    obtain rfl : i = L := by omega
    have hv := M.1.inv hv0
    have R := M.rm R0
    by_cases c2 : u < 20
    · have eL : i = u := by rw [hL, if_pos c2]
      refine ok_iload dX5_bestOf_12 rfl ?_
      refine ok_bipush (v := 20) dX5_bestOf_14 (by decide) ?_
      refine ok_icmp_gt (tgt := 71) dX5_bestOf_16 (by decide) (fun c9 => absurd c9 (nI_nlt (a := 20) (b := i + 1) (by omega) (by omega))) (fun _ => ?_)
      refine ok_iload dX5_bestOf_19 rfl ?_
      refine ok_aload_n dX5_bestOf_21 rfl rfl ?_
      refine ok_iload_n dX5_bestOf_22 rfl rfl ?_
      refine ok_iconst (v := 1) dX5_bestOf_23 (by decide) ?_
      refine ok_callV (M' := mX5_its) (b' := (0, 0)) (As := [_, _]) (cx := 5) dX5_bestOf_24 iX5_its w_871 (by decide) rfl (by first | exact is_lit hv (by decide) rfl | exact is_sq hv hq | exact is_row hv hq | exact is_pn hv hq (by assumption) | assumption) rfl (Nat.le_of_ble_eq_true rfl) ⟨Nat.le_of_ble_eq_true rfl, Nat.le_of_ble_eq_true rfl⟩ (Nat.le_of_ble_eq_true rfl) rfl rfl ?_
      refine sp_X5_its (f := 1) hv R hp (by decide) ?_
      rw [eu]
      refine ok_icmp_gt (tgt := 71) dX5_bestOf_27 (by decide) (fun _ => ?_) (fun c9 => absurd (nI_lt (by omega) (by omega)) c9)
      refine ok_iload_n dX5_bestOf_71 rfl rfl ?_
      refine ok_ireturn dX5_bestOf_72 rfl rfl ?_
      exact K h M
    · have eL : i = 20 := by rw [hL, if_neg c2]
      refine ok_iload dX5_bestOf_12 rfl ?_
      refine ok_bipush (v := 20) dX5_bestOf_14 (by decide) ?_
      refine ok_icmp_gt (tgt := 71) dX5_bestOf_16 (by decide) (fun _ => ?_) (fun c9 => absurd (nI_lt (a := 20) (b := i + 1) (by omega) (by omega)) c9)
      refine ok_iload_n dX5_bestOf_71 rfl rfl ?_
      refine ok_ireturn dX5_bestOf_72 rfl rfl ?_
      exact K h M
  | succ k ih =>
    intro i h x5 hik M
    have hi : i < L := by omega
    have hv := M.1.inv hv0
    have R := M.rm R0
    have e := fun h1 M1 => ih (i + 1) h1 (some (.int (w_gain r n (nI p) (nI (i + 1)) p))) (by omega) M1
    rw [am] at e
    by_cases cc : w_gain r n (nI p) (nI (i + 1)) p ≤ (am (fun c => w_gain r n (nI p) (nI c) p) i).2
    · rw [if_pos cc] at e
      refine ok_iload dX5_bestOf_12 rfl ?_
      refine ok_bipush (v := 20) dX5_bestOf_14 (by decide) ?_
      refine ok_icmp_gt (tgt := 71) dX5_bestOf_16 (by decide) (fun c9 => absurd c9 (nI_nlt (a := 20) (b := i + 1) (by omega) (by omega))) (fun _ => ?_)
      refine ok_iload dX5_bestOf_19 rfl ?_
      refine ok_aload_n dX5_bestOf_21 rfl rfl ?_
      refine ok_iload_n dX5_bestOf_22 rfl rfl ?_
      refine ok_iconst (v := 1) dX5_bestOf_23 (by decide) ?_
      refine ok_callV (M' := mX5_its) (b' := (0, 0)) (As := [_, _]) (cx := 5) dX5_bestOf_24 iX5_its w_871 (by decide) rfl (by first | exact is_lit hv (by decide) rfl | exact is_sq hv hq | exact is_row hv hq | exact is_pn hv hq (by assumption) | assumption) rfl (Nat.le_of_ble_eq_true rfl) ⟨Nat.le_of_ble_eq_true rfl, Nat.le_of_ble_eq_true rfl⟩ (Nat.le_of_ble_eq_true rfl) rfl rfl ?_
      refine sp_X5_its (f := 1) hv R hp (by decide) ?_
      rw [eu]
      refine ok_icmp_gt (tgt := 71) dX5_bestOf_27 (by decide) (fun c9 => absurd c9 (nI_nlt (by omega) (by omega))) (fun _ => ?_)
      refine ok_aload_n dX5_bestOf_30 rfl rfl ?_
      refine ok_iload_n dX5_bestOf_31 rfl rfl ?_
      refine ok_iload dX5_bestOf_32 rfl ?_
      refine ok_callV (M' := mX5_gainWith) (b' := (0, 0)) (As := [_, _]) (cx := 5) dX5_bestOf_34 iX5_gainWith w_1005 (by decide) rfl (by first | exact is_lit hv (by decide) rfl | exact is_sq hv hq | exact is_row hv hq | exact is_pn hv hq (by assumption) | assumption) rfl (Nat.le_of_ble_eq_true rfl) ⟨Nat.le_of_ble_eq_true rfl, Nat.le_of_ble_eq_true rfl⟩ (Nat.le_of_ble_eq_true rfl) rfl rfl ?_
      refine sp_X5_gainWith hv R G hp _ (fun h1 M1 => ?_)
      refine ok_istore (lo' := [_, _, _, _, _, _]) dX5_bestOf_37 (Nat.le_of_ble_eq_true rfl) rfl rfl ?_
      refine ok_iload dX5_bestOf_39 rfl ?_
      refine ok_iload_n dX5_bestOf_41 rfl rfl ?_
      refine ok_icmp_le (tgt := 50) dX5_bestOf_42 (by decide) (fun _ => ?_) (fun c9 => absurd cc c9)
      refine ok_iload_n dX5_bestOf_50 rfl rfl ?_
      refine ok_istore_n (lo' := [_, _, _, _, _, _]) dX5_bestOf_51 rfl (Nat.le_of_ble_eq_true rfl) rfl rfl ?_
      refine ok_iload dX5_bestOf_52 rfl ?_
      refine ok_iload_n dX5_bestOf_54 rfl rfl ?_
      refine ok_icmp_le (tgt := 63) dX5_bestOf_55 (by decide) (fun _ => ?_) (fun c9 => absurd cc c9)
      refine ok_iload_n dX5_bestOf_63 rfl rfl ?_
      refine ok_istore_n (lo' := [_, _, _, _, _, _]) dX5_bestOf_64 rfl (Nat.le_of_ble_eq_true rfl) rfl rfl ?_
      refine ok_iinc (v := _ + 1) (lo' := [_, _, _, _, _, _]) dX5_bestOf_65 rfl rfl (Nat.le_of_ble_eq_true rfl) rfl rfl ?_
      refine ok_goto (tgt := 12) dX5_bestOf_68 (by decide) ?_
      rw [nI_1]
      exact e h1 (M.tr M1)
    · rw [if_neg cc] at e
      refine ok_iload dX5_bestOf_12 rfl ?_
      refine ok_bipush (v := 20) dX5_bestOf_14 (by decide) ?_
      refine ok_icmp_gt (tgt := 71) dX5_bestOf_16 (by decide) (fun c9 => absurd c9 (nI_nlt (a := 20) (b := i + 1) (by omega) (by omega))) (fun _ => ?_)
      refine ok_iload dX5_bestOf_19 rfl ?_
      refine ok_aload_n dX5_bestOf_21 rfl rfl ?_
      refine ok_iload_n dX5_bestOf_22 rfl rfl ?_
      refine ok_iconst (v := 1) dX5_bestOf_23 (by decide) ?_
      refine ok_callV (M' := mX5_its) (b' := (0, 0)) (As := [_, _]) (cx := 5) dX5_bestOf_24 iX5_its w_871 (by decide) rfl (by first | exact is_lit hv (by decide) rfl | exact is_sq hv hq | exact is_row hv hq | exact is_pn hv hq (by assumption) | assumption) rfl (Nat.le_of_ble_eq_true rfl) ⟨Nat.le_of_ble_eq_true rfl, Nat.le_of_ble_eq_true rfl⟩ (Nat.le_of_ble_eq_true rfl) rfl rfl ?_
      refine sp_X5_its (f := 1) hv R hp (by decide) ?_
      rw [eu]
      refine ok_icmp_gt (tgt := 71) dX5_bestOf_27 (by decide) (fun c9 => absurd c9 (nI_nlt (by omega) (by omega))) (fun _ => ?_)
      refine ok_aload_n dX5_bestOf_30 rfl rfl ?_
      refine ok_iload_n dX5_bestOf_31 rfl rfl ?_
      refine ok_iload dX5_bestOf_32 rfl ?_
      refine ok_callV (M' := mX5_gainWith) (b' := (0, 0)) (As := [_, _]) (cx := 5) dX5_bestOf_34 iX5_gainWith w_1005 (by decide) rfl (by first | exact is_lit hv (by decide) rfl | exact is_sq hv hq | exact is_row hv hq | exact is_pn hv hq (by assumption) | assumption) rfl (Nat.le_of_ble_eq_true rfl) ⟨Nat.le_of_ble_eq_true rfl, Nat.le_of_ble_eq_true rfl⟩ (Nat.le_of_ble_eq_true rfl) rfl rfl ?_
      refine sp_X5_gainWith hv R G hp _ (fun h1 M1 => ?_)
      refine ok_istore (lo' := [_, _, _, _, _, _]) dX5_bestOf_37 (Nat.le_of_ble_eq_true rfl) rfl rfl ?_
      refine ok_iload dX5_bestOf_39 rfl ?_
      refine ok_iload_n dX5_bestOf_41 rfl rfl ?_
      refine ok_icmp_le (tgt := 50) dX5_bestOf_42 (by decide) (fun c9 => absurd c9 cc) (fun _ => ?_)
      refine ok_iload dX5_bestOf_45 rfl ?_
      refine ok_goto (tgt := 51) dX5_bestOf_47 (by decide) ?_
      refine ok_istore_n (lo' := [_, _, _, _, _, _]) dX5_bestOf_51 rfl (Nat.le_of_ble_eq_true rfl) rfl rfl ?_
      refine ok_iload dX5_bestOf_52 rfl ?_
      refine ok_iload_n dX5_bestOf_54 rfl rfl ?_
      refine ok_icmp_le (tgt := 63) dX5_bestOf_55 (by decide) (fun c9 => absurd c9 cc) (fun _ => ?_)
      refine ok_iload dX5_bestOf_58 rfl ?_
      refine ok_goto (tgt := 64) dX5_bestOf_60 (by decide) ?_
      refine ok_istore_n (lo' := [_, _, _, _, _, _]) dX5_bestOf_64 rfl (Nat.le_of_ble_eq_true rfl) rfl rfl ?_
      refine ok_iinc (v := _ + 1) (lo' := [_, _, _, _, _, _]) dX5_bestOf_65 rfl rfl (Nat.le_of_ble_eq_true rfl) rfl rfl ?_
      refine ok_goto (tgt := 12) dX5_bestOf_68 (by decide) ?_
      rw [nI_1]
      exact e h1 (M.tr M1)
theorem sp_X5_bestOf {g : GG} {h : Hp} {Post : Option Value → Hp → Prop} (hv : Inv h) {n : Nat} {r : Nat → Int32} (R : RM 50 h n r) (G : RG r n) {p : Nat} (hp : p < n) (K : ∀ h', TM h h' → Post (some (.int (nI (w_bst r n p)))) h') : Sp g mX5_bestOf [.ref 49, .int (nI p)] h Post := by
  show Go g mX5_bestOf 0 [_, _, _, _, _, _] [] _ _ _
  obtain ⟨u, hu, eu⟩ := (G.2.2.2.2 p hp).2.1
  rw [bst_of hu eu] at K
  refine ok_iconst (v := 0) dX5_bestOf_0 (by decide) ?_
  refine ok_istore_n (lo' := [_, _, _, _, _, _]) dX5_bestOf_1 rfl (Nat.le_of_ble_eq_true rfl) rfl rfl ?_
  refine ok_aload_n dX5_bestOf_2 rfl rfl ?_
  refine ok_iload_n dX5_bestOf_3 rfl rfl ?_
  refine ok_iconst (v := 0) dX5_bestOf_4 (by decide) ?_
  refine ok_callV (M' := mX5_gainWith) (b' := (0, 0)) (As := [_, _]) (cx := 5) dX5_bestOf_5 iX5_gainWith w_1005 (by decide) rfl (by first | exact is_lit hv (by decide) rfl | exact is_sq hv hq | exact is_row hv hq | exact is_pn hv hq (by assumption) | assumption) rfl (Nat.le_of_ble_eq_true rfl) ⟨Nat.le_of_ble_eq_true rfl, Nat.le_of_ble_eq_true rfl⟩ (Nat.le_of_ble_eq_true rfl) rfl rfl ?_
  refine sp_X5_gainWith hv R G hp _ (fun h1 M1 => ?_)
  refine ok_istore_n (lo' := [_, _, _, _, _, _]) dX5_bestOf_8 rfl (Nat.le_of_ble_eq_true rfl) rfl rfl ?_
  refine ok_iconst (v := 1) dX5_bestOf_9 (by decide) ?_
  refine ok_istore (lo' := [_, _, _, _, _, _]) dX5_bestOf_10 (Nat.le_of_ble_eq_true rfl) rfl rfl ?_
  exact lp_X5_bestOf_12 hv G R hp hu eu rfl K (if u < 20 then u else 20) 0 h1 _ (by omega) M1
theorem sp_X5_best_b {g : GG} {h : Hp} {Post : Option Value → Hp → Prop} (hv : Inv h) {n : Nat} {r : Nat → Int32} (R : RM 50 h n r) (p : Int32) (hb : p < 0 ∨ nI n ≤ p) (K : Post (some (.int (-1000000001))) (hfm h 0)) : Sp g mX5_best [.ref 49, .int p] h Post := by
  show Go g mX5_best 0 [_, _] [] _ _ _
  refine ok_aload_n dX5_best_0 rfl rfl ?_
  refine ok_iload_n dX5_best_1 rfl rfl ?_
  refine ok_callV (M' := mX5_isOne) (b' := (0, 0)) (As := [_]) (cx := 5) dX5_best_2 iX5_isOne w_867 (by decide) rfl (by first | exact is_lit hv (by decide) rfl | exact is_sq hv hq | exact is_row hv hq | exact is_pn hv hq (by assumption) | assumption) rfl (Nat.le_of_ble_eq_true rfl) ⟨Nat.le_of_ble_eq_true rfl, Nat.le_of_ble_eq_true rfl⟩ (Nat.le_of_ble_eq_true rfl) rfl rfl ?_
  refine sp_X5_isOne hv R _ ?_
  rw [one_bad R.1 hb]
  refine ok_if_eq (tgt := 16) dX5_best_5 (by decide) (fun _ => ?_) (fun c9 => absurd rfl c9)
  refine ok_aload_n dX5_best_16 rfl rfl ?_
  refine ok_ldc dX5_best_17 w_849 ?_
  refine ok_callV (M' := mX5_finds) (b' := (0, 0)) (As := [_]) (cx := 5) dX5_best_19 iX5_finds w_850 (by decide) rfl (by first | exact is_lit hv (by decide) rfl | exact is_sq hv hq | exact is_row hv hq | exact is_pn hv hq (by assumption) | assumption) rfl (Nat.le_of_ble_eq_true rfl) ⟨Nat.le_of_ble_eq_true rfl, Nat.le_of_ble_eq_true rfl⟩ (Nat.le_of_ble_eq_true rfl) rfl rfl ?_
  refine sp_X5_finds hv (k := 0) (by decide) (by decide) ?_
  refine ok_ireturn dX5_best_22 rfl rfl ?_
  first | exact K | (simp only [↓reduceIte] at K; exact K)
theorem sp_X5_best {g : GG} {h : Hp} {Post : Option Value → Hp → Prop} (hv : Inv h) {n : Nat} {r : Nat → Int32} (R : RM 50 h n r) (G : RG r n) {j : Nat} (hj : j < n) (K : ∀ h', TM h h' → Post (some (.int (nI (w_bst r n j)))) h') : Sp g mX5_best [.ref 49, .int (nI j)] h Post := by
  show Go g mX5_best 0 [_, _] [] _ _ _
  refine ok_aload_n dX5_best_0 rfl rfl ?_
  refine ok_iload_n dX5_best_1 rfl rfl ?_
  refine ok_callV (M' := mX5_isOne) (b' := (0, 0)) (As := [_]) (cx := 5) dX5_best_2 iX5_isOne w_867 (by decide) rfl (by first | exact is_lit hv (by decide) rfl | exact is_sq hv hq | exact is_row hv hq | exact is_pn hv hq (by assumption) | assumption) rfl (Nat.le_of_ble_eq_true rfl) ⟨Nat.le_of_ble_eq_true rfl, Nat.le_of_ble_eq_true rfl⟩ (Nat.le_of_ble_eq_true rfl) rfl rfl ?_
  refine sp_X5_isOne hv R _ ?_
  rw [one_ok R.1 hj]
  refine ok_if_eq (tgt := 16) dX5_best_5 (by decide) (fun c9 => absurd c9 (by decide)) (fun _ => ?_)
  refine ok_aload_n dX5_best_8 rfl rfl ?_
  refine ok_iload_n dX5_best_9 rfl rfl ?_
  refine ok_callV (M' := mX5_bestOf) (b' := (0, 0)) (As := [_]) (cx := 5) dX5_best_10 iX5_bestOf w_1013 (by decide) rfl (by first | exact is_lit hv (by decide) rfl | exact is_sq hv hq | exact is_row hv hq | exact is_pn hv hq (by assumption) | assumption) rfl (Nat.le_of_ble_eq_true rfl) ⟨Nat.le_of_ble_eq_true rfl, Nat.le_of_ble_eq_true rfl⟩ (Nat.le_of_ble_eq_true rfl) rfl rfl ?_
  refine sp_X5_bestOf hv R G hj (fun h1 M1 => ?_)
  refine ok_goto (tgt := 22) dX5_best_13 (by decide) ?_
  refine ok_ireturn dX5_best_22 rfl rfl ?_
  exact K h1 M1
theorem sp_X5_regretOf {g : GG} {h : Hp} {Post : Option Value → Hp → Prop} (hv : Inv h) {n : Nat} {r : Nat → Int32} (R : RM 50 h n r) (G : RG r n) {j : Nat} (hj : j < n) (K : ∀ h', TM h h' → Post (some (.int (w_gain r n (nI j) (nI (w_bst r n j)) j - w_gain r n (-1) 0 j))) h') : Sp g mX5_regretOf [.ref 49, .int (nI j)] h Post := by
  show Go g mX5_regretOf 0 [_, _, _, _] [] _ _ _
  refine ok_aload_n dX5_regretOf_0 rfl rfl ?_
  refine ok_iload_n dX5_regretOf_1 rfl rfl ?_
  refine ok_callV (M' := mX5_bestOf) (b' := (0, 0)) (As := [_]) (cx := 5) dX5_regretOf_2 iX5_bestOf w_1013 (by decide) rfl (by first | exact is_lit hv (by decide) rfl | exact is_sq hv hq | exact is_row hv hq | exact is_pn hv hq (by assumption) | assumption) rfl (Nat.le_of_ble_eq_true rfl) ⟨Nat.le_of_ble_eq_true rfl, Nat.le_of_ble_eq_true rfl⟩ (Nat.le_of_ble_eq_true rfl) rfl rfl ?_
  refine sp_X5_bestOf hv R G hj (fun h1 M1 => ?_)
  have hv := M1.1.inv hv
  have R := M1.rm R
  refine ok_istore_n (lo' := [_, _, _, _]) dX5_regretOf_5 rfl (Nat.le_of_ble_eq_true rfl) rfl rfl ?_
  refine ok_aload_n dX5_regretOf_6 rfl rfl ?_
  refine ok_iload_n dX5_regretOf_7 rfl rfl ?_
  refine ok_iload_n dX5_regretOf_8 rfl rfl ?_
  refine ok_callV (M' := mX5_gainWith) (b' := (0, 0)) (As := [_, _]) (cx := 5) dX5_regretOf_9 iX5_gainWith w_1005 (by decide) rfl (by first | exact is_lit hv (by decide) rfl | exact is_sq hv hq | exact is_row hv hq | exact is_pn hv hq (by assumption) | assumption) rfl (Nat.le_of_ble_eq_true rfl) ⟨Nat.le_of_ble_eq_true rfl, Nat.le_of_ble_eq_true rfl⟩ (Nat.le_of_ble_eq_true rfl) rfl rfl ?_
  refine sp_X5_gainWith hv R G hj _ (fun h2 M2 => ?_)
  have hv := M2.1.inv hv
  have R := M2.rm R
  refine ok_istore_n (lo' := [_, _, _, _]) dX5_regretOf_12 rfl (Nat.le_of_ble_eq_true rfl) rfl rfl ?_
  refine ok_iload_n dX5_regretOf_13 rfl rfl ?_
  refine ok_aload_n dX5_regretOf_14 rfl rfl ?_
  refine ok_iload_n dX5_regretOf_15 rfl rfl ?_
  refine ok_callV (M' := mX5_gainNow) (b' := (0, 0)) (As := [_]) (cx := 5) dX5_regretOf_16 iX5_gainNow w_972 (by decide) rfl (by first | exact is_lit hv (by decide) rfl | exact is_sq hv hq | exact is_row hv hq | exact is_pn hv hq (by assumption) | assumption) rfl (Nat.le_of_ble_eq_true rfl) ⟨Nat.le_of_ble_eq_true rfl, Nat.le_of_ble_eq_true rfl⟩ (Nat.le_of_ble_eq_true rfl) rfl rfl ?_
  refine sp_X5_gainNow hv R G hj (fun h3 M3 => ?_)
  refine ok_isub dX5_regretOf_19 ?_
  refine ok_ireturn dX5_regretOf_20 rfl rfl ?_
  exact K h3 ((M1.tr M2).tr M3)
theorem sp_X5_regret_b {g : GG} {h : Hp} {Post : Option Value → Hp → Prop} (hv : Inv h) {n : Nat} {r : Nat → Int32} (R : RM 50 h n r) (p : Int32) (hb : p < 0 ∨ nI n ≤ p) (K : Post (some (.int (-1000000001))) (hfm h 0)) : Sp g mX5_regret [.ref 49, .int p] h Post := by
  show Go g mX5_regret 0 [_, _] [] _ _ _
  refine ok_aload_n dX5_regret_0 rfl rfl ?_
  refine ok_iload_n dX5_regret_1 rfl rfl ?_
  refine ok_callV (M' := mX5_isOne) (b' := (0, 0)) (As := [_]) (cx := 5) dX5_regret_2 iX5_isOne w_867 (by decide) rfl (by first | exact is_lit hv (by decide) rfl | exact is_sq hv hq | exact is_row hv hq | exact is_pn hv hq (by assumption) | assumption) rfl (Nat.le_of_ble_eq_true rfl) ⟨Nat.le_of_ble_eq_true rfl, Nat.le_of_ble_eq_true rfl⟩ (Nat.le_of_ble_eq_true rfl) rfl rfl ?_
  refine sp_X5_isOne hv R _ ?_
  rw [one_bad R.1 hb]
  refine ok_if_eq (tgt := 16) dX5_regret_5 (by decide) (fun _ => ?_) (fun c9 => absurd rfl c9)
  refine ok_aload_n dX5_regret_16 rfl rfl ?_
  refine ok_ldc dX5_regret_17 w_849 ?_
  refine ok_callV (M' := mX5_finds) (b' := (0, 0)) (As := [_]) (cx := 5) dX5_regret_19 iX5_finds w_850 (by decide) rfl (by first | exact is_lit hv (by decide) rfl | exact is_sq hv hq | exact is_row hv hq | exact is_pn hv hq (by assumption) | assumption) rfl (Nat.le_of_ble_eq_true rfl) ⟨Nat.le_of_ble_eq_true rfl, Nat.le_of_ble_eq_true rfl⟩ (Nat.le_of_ble_eq_true rfl) rfl rfl ?_
  refine sp_X5_finds hv (k := 0) (by decide) (by decide) ?_
  refine ok_ireturn dX5_regret_22 rfl rfl ?_
  first | exact K | (simp only [↓reduceIte] at K; exact K)
theorem sp_X5_regret {g : GG} {h : Hp} {Post : Option Value → Hp → Prop} (hv : Inv h) {n : Nat} {r : Nat → Int32} (R : RM 50 h n r) (G : RG r n) {j : Nat} (hj : j < n) (K : ∀ h', TM h h' → Post (some (.int (w_gain r n (nI j) (nI (w_bst r n j)) j - w_gain r n (-1) 0 j))) h') : Sp g mX5_regret [.ref 49, .int (nI j)] h Post := by
  show Go g mX5_regret 0 [_, _] [] _ _ _
  refine ok_aload_n dX5_regret_0 rfl rfl ?_
  refine ok_iload_n dX5_regret_1 rfl rfl ?_
  refine ok_callV (M' := mX5_isOne) (b' := (0, 0)) (As := [_]) (cx := 5) dX5_regret_2 iX5_isOne w_867 (by decide) rfl (by first | exact is_lit hv (by decide) rfl | exact is_sq hv hq | exact is_row hv hq | exact is_pn hv hq (by assumption) | assumption) rfl (Nat.le_of_ble_eq_true rfl) ⟨Nat.le_of_ble_eq_true rfl, Nat.le_of_ble_eq_true rfl⟩ (Nat.le_of_ble_eq_true rfl) rfl rfl ?_
  refine sp_X5_isOne hv R _ ?_
  rw [one_ok R.1 hj]
  refine ok_if_eq (tgt := 16) dX5_regret_5 (by decide) (fun c9 => absurd c9 (by decide)) (fun _ => ?_)
  refine ok_aload_n dX5_regret_8 rfl rfl ?_
  refine ok_iload_n dX5_regret_9 rfl rfl ?_
  refine ok_callV (M' := mX5_regretOf) (b' := (0, 0)) (As := [_]) (cx := 5) dX5_regret_10 iX5_regretOf w_1021 (by decide) rfl (by first | exact is_lit hv (by decide) rfl | exact is_sq hv hq | exact is_row hv hq | exact is_pn hv hq (by assumption) | assumption) rfl (Nat.le_of_ble_eq_true rfl) ⟨Nat.le_of_ble_eq_true rfl, Nat.le_of_ble_eq_true rfl⟩ (Nat.le_of_ble_eq_true rfl) rfl rfl ?_
  refine sp_X5_regretOf hv R G hj (fun h1 M1 => ?_)
  refine ok_goto (tgt := 22) dX5_regret_13 (by decide) ?_
  refine ok_ireturn dX5_regret_22 rfl rfl ?_
  exact K h1 M1
theorem thw_in {r : Nat → Int32} {n p u : Nat} {c : Int32} (hn : n ≤ 10) (hp : p < n) : w_thr r n (nI p) c p = c := by
  obtain ⟨cc, h⟩ := th_val (who := nI p) (c := c) (vis_all (r := r) hp)
  rw [w_thr, h, if_pos rfl]
theorem gw_in {r : Nat → Int32} {n p c : Nat} (G : RG r n) (hp : p < n) (hc : c ≤ 999) : -999 ≤ (w_gain r n (nI p) (nI c) p).toInt ∧ (w_gain r n (nI p) (nI c) p).toInt ≤ 99 := by
  obtain ⟨-, -, w, hw, e2⟩ := G.2.2.2.2 p hp
  have h2 : (nI w).toInt = w := nI_toInt (by omega)
  have h3 : (nI c).toInt = c := nI_toInt (by omega)
  have e0 : (0 : Int32).toInt = 0 := rfl
  unfold w_gain
  rw [thw_in (u := 0) G.1 hp, e2]
  split
  · rw [fb_subI (by omega) (by omega)]; omega
  · rw [fb_subI (by omega) (by omega)]; omega
theorem gn_in {r : Nat → Int32} {n p : Nat} (G : RG r n) (hp : p < n) : -999 ≤ (w_gain r n (-1) 0 p).toInt ∧ (w_gain r n (-1) 0 p).toInt ≤ 100 := by
  obtain ⟨-, ⟨u, hu, e1⟩, w, hw, e2⟩ := G.2.2.2.2 p hp
  have t := thr_in G.1 hp hu e1
  have h2 : (nI w).toInt = w := nI_toInt (by omega)
  have e0 : (0 : Int32).toInt = 0 := rfl
  unfold w_gain
  rw [e2]
  split
  · rw [fb_subI (by omega) (by omega)]; omega
  · rw [fb_subI (by omega) (by omega)]; omega
theorem bst_le {r : Nat → Int32} {n p : Nat} : w_bst r n p ≤ 20 := by
  unfold w_bst w_best
  refine Nat.le_trans (am_le _ _) ?_
  split <;> omega
theorem reg_le {r : Nat → Int32} {n p : Nat} (G : RG r n) (hp : p < n) : (w_gain r n (nI p) (nI (w_bst r n p)) p - w_gain r n (-1) 0 p ≤ 0) ↔ w_gain r n (nI p) (nI (w_bst r n p)) p ≤ w_gain r n (-1) 0 p := by
  have a := gw_in G hp (c := w_bst r n p) (by have := bst_le (r := r) (n := n) (p := p); omega)
  have b := gn_in G hp
  have e0 : (0 : Int32).toInt = 0 := rfl
  rw [i_le, i_le, fb_subI (by omega) (by omega)]
  omega
theorem or_0 (x : Int32) : x ||| 0 = x := Int32.or_zero
theorem lp_X5_sorry_4 {g : GG} {h0 : Hp} {Post : Option Value → Hp → Prop} (hv0 : Inv h0) {n : Nat} {r : Nat → Int32} (G : RG r n) (R0 : RM 50 h0 n r) (K : ∀ h', TM h0 h' → Post (some (.int (w_sry r n n))) h') : ∀ (k i : Nat) (h : Hp), i + k = n → TM h0 h → Go g mX5_sorry 4 [some (.ref 49), some (.int (w_sry r n i)), some (.int (nI i))] [] h (0, 0) Post := by
  intro k
  induction k with
  | zero =>
    intro i h hik M
    obtain rfl : i = n := by omega
    have hv := M.1.inv hv0
    have R := M.rm R0
    have hn := R.1
    refine ok_iload_n dX5_sorry_4 rfl rfl ?_
    refine ok_aload_n dX5_sorry_5 rfl rfl ?_
    refine ok_getR dX5_sorry_6 f_X5_7 (by first | exact is_lit hv (by decide) rfl | exact is_sq hv hq | exact is_row hv hq | exact is_pn hv hq (by assumption) | assumption) rfl (by first | exact rf hv rfl | exact rf_row hv hq | assumption) ?_
    refine ok_iconst (v := 0) dX5_sorry_9 (by decide) ?_
    refine ok_iaload dX5_sorry_10 (is_lit hv (by decide) rfl) (by unfold vp_in; decide) ?_
    rw [show hI h 50 (Int32.toNatClampNeg 0) = nI i from (R.2.2.1 0 (by decide)).trans R.2.1]
    refine ok_icmp_ge (tgt := 38) dX5_sorry_11 (by decide) (fun _ => ?_) (fun c9 => absurd (nI_le (Nat.le_refl _) (by omega)) c9)
    refine ok_iload_n dX5_sorry_38 rfl rfl ?_
    refine ok_ireturn dX5_sorry_39 rfl rfl ?_
    exact K h M
  | succ k ih =>
    intro i h hik M
    have hi : i < n := by omega
    have hv := M.1.inv hv0
    have R := M.rm R0
    have hn := R.1
    refine ok_iload_n dX5_sorry_4 rfl rfl ?_
    refine ok_aload_n dX5_sorry_5 rfl rfl ?_
    refine ok_getR dX5_sorry_6 f_X5_7 (by first | exact is_lit hv (by decide) rfl | exact is_sq hv hq | exact is_row hv hq | exact is_pn hv hq (by assumption) | assumption) rfl (by first | exact rf hv rfl | exact rf_row hv hq | assumption) ?_
    refine ok_iconst (v := 0) dX5_sorry_9 (by decide) ?_
    refine ok_iaload dX5_sorry_10 (is_lit hv (by decide) rfl) (by unfold vp_in; decide) ?_
    rw [show hI h 50 (Int32.toNatClampNeg 0) = nI n from (R.2.2.1 0 (by decide)).trans R.2.1]
    refine ok_icmp_ge (tgt := 38) dX5_sorry_11 (by decide) (fun c9 => absurd c9 (nI_ge hi (by omega))) (fun _ => ?_)
    refine ok_iload_n dX5_sorry_14 rfl rfl ?_
    refine ok_aload_n dX5_sorry_15 rfl rfl ?_
    refine ok_iload_n dX5_sorry_16 rfl rfl ?_
    refine ok_callV (M' := mX5_regretOf) (b' := (0, 0)) (As := [_]) (cx := 5) dX5_sorry_17 iX5_regretOf w_1021 (by decide) rfl (by first | exact is_lit hv (by decide) rfl | exact is_sq hv hq | exact is_row hv hq | exact is_pn hv hq (by assumption) | assumption) rfl (Nat.le_of_ble_eq_true rfl) ⟨Nat.le_of_ble_eq_true rfl, Nat.le_of_ble_eq_true rfl⟩ (Nat.le_of_ble_eq_true rfl) rfl rfl ?_
    refine sp_X5_regretOf hv R G hi (fun h1 M1 => ?_)
    refine ok_if_le (tgt := 29) dX5_sorry_20 (by decide) (fun c_20 => ?_) (fun c_20 => ?_)
    · refine ok_iconst (v := 0) dX5_sorry_29 (by decide) ?_
      refine ok_ior dX5_sorry_30 ?_
      refine ok_istore_n (lo' := [_, _, _]) dX5_sorry_31 rfl (Nat.le_of_ble_eq_true rfl) rfl rfl ?_
      refine ok_iinc (v := _ + 1) (lo' := [_, _, _]) dX5_sorry_32 rfl rfl (Nat.le_of_ble_eq_true rfl) rfl rfl ?_
      refine ok_goto (tgt := 4) dX5_sorry_35 (by decide) ?_
      rw [nI_1]
      have e := ih (i + 1) h1 (by omega) (M.tr M1)
      rw [w_sry] at e
      first | (rw [if_pos ((reg_le G hi).mp c_20)] at e; rw [or_0]; exact e) | (rw [if_neg (fun z => c_20 ((reg_le G hi).mpr z))] at e; exact e)
    · refine ok_iconst (v := 1) dX5_sorry_23 (by decide) ?_
      refine ok_iload_n dX5_sorry_24 rfl rfl ?_
      refine ok_ishl dX5_sorry_25 ?_
      refine ok_goto (tgt := 30) dX5_sorry_26 (by decide) ?_
      refine ok_ior dX5_sorry_30 ?_
      refine ok_istore_n (lo' := [_, _, _]) dX5_sorry_31 rfl (Nat.le_of_ble_eq_true rfl) rfl rfl ?_
      refine ok_iinc (v := _ + 1) (lo' := [_, _, _]) dX5_sorry_32 rfl rfl (Nat.le_of_ble_eq_true rfl) rfl rfl ?_
      refine ok_goto (tgt := 4) dX5_sorry_35 (by decide) ?_
      rw [nI_1]
      have e := ih (i + 1) h1 (by omega) (M.tr M1)
      rw [w_sry] at e
      first | (rw [if_pos ((reg_le G hi).mp c_20)] at e; rw [or_0]; exact e) | (rw [if_neg (fun z => c_20 ((reg_le G hi).mpr z))] at e; exact e)
theorem sp_X5_sorry {g : GG} {h : Hp} {Post : Option Value → Hp → Prop} (hv : Inv h) {n : Nat} {r : Nat → Int32} (R : RM 50 h n r) (G : RG r n) (K : ∀ h', TM h h' → Post (some (.int (w_sry r n n))) h') : Sp g mX5_sorry [.ref 49] h Post := by
  show Go g mX5_sorry 0 [_, _, _] [] _ _ _
  refine ok_iconst (v := 0) dX5_sorry_0 (by decide) ?_
  refine ok_istore_n (lo' := [_, _, _]) dX5_sorry_1 rfl (Nat.le_of_ble_eq_true rfl) rfl rfl ?_
  refine ok_iconst (v := 0) dX5_sorry_2 (by decide) ?_
  refine ok_istore_n (lo' := [_, _, _]) dX5_sorry_3 rfl (Nat.le_of_ble_eq_true rfl) rfl rfl ?_
  exact lp_X5_sorry_4 hv G R K n 0 h (by omega) TM.rf
theorem sp_X5_stand_b {g : GG} {h : Hp} {Post : Option Value → Hp → Prop} (hv : Inv h) {n : Nat} {r : Nat → Int32} (R : RM 50 h n r) (p : Int32) (hb : p < 0 ∨ nI n ≤ p) (K : Post (some (.int (-1000000001))) (hfm h 0)) : Sp g mX5_stand [.ref 49, .int p] h Post := by
  show Go g mX5_stand 0 [_, _, _, _, _, _] [] _ _ _
  refine ok_aload_n dX5_stand_0 rfl rfl ?_
  refine ok_iload_n dX5_stand_1 rfl rfl ?_
  refine ok_callV (M' := mX5_isOne) (b' := (0, 0)) (As := [_]) (cx := 5) dX5_stand_2 iX5_isOne w_867 (by decide) rfl (by first | exact is_lit hv (by decide) rfl | exact is_sq hv hq | exact is_row hv hq | exact is_pn hv hq (by assumption) | assumption) rfl (Nat.le_of_ble_eq_true rfl) ⟨Nat.le_of_ble_eq_true rfl, Nat.le_of_ble_eq_true rfl⟩ (Nat.le_of_ble_eq_true rfl) rfl rfl ?_
  refine sp_X5_isOne hv R _ ?_
  rw [one_bad R.1 hb]
  refine ok_if_ne (tgt := 15) dX5_stand_5 (by decide) (fun c9 => absurd c9 (fun c => c rfl)) (fun _ => ?_)
  refine ok_aload_n dX5_stand_8 rfl rfl ?_
  refine ok_ldc dX5_stand_9 w_849 ?_
  refine ok_callV (M' := mX5_finds) (b' := (0, 0)) (As := [_]) (cx := 5) dX5_stand_11 iX5_finds w_850 (by decide) rfl (by first | exact is_lit hv (by decide) rfl | exact is_sq hv hq | exact is_row hv hq | exact is_pn hv hq (by assumption) | assumption) rfl (Nat.le_of_ble_eq_true rfl) ⟨Nat.le_of_ble_eq_true rfl, Nat.le_of_ble_eq_true rfl⟩ (Nat.le_of_ble_eq_true rfl) rfl rfl ?_
  refine sp_X5_finds hv (k := 0) (by decide) (by decide) ?_
  refine ok_ireturn dX5_stand_14 rfl rfl ?_
  first | exact K | (simp only [↓reduceIte] at K; exact K)
theorem lp_X5_stand_23 {g : GG} {h0 : Hp} {Post : Option Value → Hp → Prop} (hv0 : Inv h0) {n : Nat} {r : Nat → Int32} (G : RG r n) {j : Nat} (hj : j < n) (K : ∀ h', QM h0 h' → RM 50 h' n r → Post (some (.int (nI (a0 (-999999) (fun t => w_gain (w_pm r (mv j t)) n (-1) 0 t) n).1))) h') : ∀ (k i : Nat) (h : Hp) (x5 : Option Value), i + k = n → QM h0 h → RM 50 h n r → Go g mX5_stand 23 [some (.ref 49), some (.int (nI j)), some (.int (nI (a0 (-999999) (fun t => w_gain (w_pm r (mv j t)) n (-1) 0 t) i).1)), some (.int (a0 (-999999) (fun t => w_gain (w_pm r (mv j t)) n (-1) 0 t) i).2), some (.int (nI i)), x5] [] h (0, 0) Post := by
  intro k
  induction k with
  | zero =>
    intro i h x5 hik M R
    obtain rfl : i = n := by omega
    have hv := M.inv hv0
    have hn := R.1
    refine ok_iload dX5_stand_23 rfl ?_
    refine ok_aload_n dX5_stand_25 rfl rfl ?_
    refine ok_getR dX5_stand_26 f_X5_7 (by first | exact is_lit hv (by decide) rfl | exact is_sq hv hq | exact is_row hv hq | exact is_pn hv hq (by assumption) | assumption) rfl (by first | exact rf hv rfl | exact rf_row hv hq | assumption) ?_
    refine ok_iconst (v := 0) dX5_stand_29 (by decide) ?_
    refine ok_iaload dX5_stand_30 (is_lit hv (by decide) rfl) (by unfold vp_in; decide) ?_
    rw [show hI h 50 (Int32.toNatClampNeg 0) = nI i from (R.2.2.1 0 (by decide)).trans R.2.1]
    refine ok_icmp_ge (tgt := 88) dX5_stand_31 (by decide) (fun _ => ?_) (fun c9 => absurd (nI_le (Nat.le_refl _) (by omega)) c9)
    refine ok_iload_n dX5_stand_88 rfl rfl ?_
    refine ok_ireturn dX5_stand_89 rfl rfl ?_
    exact K h M R
  | succ k ih =>
    intro i h x5 hik M R
    have hi : i < n := by omega
    have hv := M.inv hv0
    have hn := R.1
    have e := fun h1 M1 R1 => ih (i + 1) h1 (some (.int (w_gain (w_pm r (mv j i)) n (-1) 0 i))) (by omega) M1 R1
    rw [a0] at e
    by_cases cc : w_gain (w_pm r (mv j i)) n (-1) 0 i ≤ (a0 (-999999) (fun t => w_gain (w_pm r (mv j t)) n (-1) 0 t) i).2
    · rw [if_pos cc] at e
      refine ok_iload dX5_stand_23 rfl ?_
      refine ok_aload_n dX5_stand_25 rfl rfl ?_
      refine ok_getR dX5_stand_26 f_X5_7 (by first | exact is_lit hv (by decide) rfl | exact is_sq hv hq | exact is_row hv hq | exact is_pn hv hq (by assumption) | assumption) rfl (by first | exact rf hv rfl | exact rf_row hv hq | assumption) ?_
      refine ok_iconst (v := 0) dX5_stand_29 (by decide) ?_
      refine ok_iaload dX5_stand_30 (is_lit hv (by decide) rfl) (by unfold vp_in; decide) ?_
      rw [show hI h 50 (Int32.toNatClampNeg 0) = nI n from (R.2.2.1 0 (by decide)).trans R.2.1]
      refine ok_icmp_ge (tgt := 88) dX5_stand_31 (by decide) (fun c9 => absurd c9 (nI_ge hi (by omega))) (fun _ => ?_)
      refine ok_aload_n dX5_stand_34 rfl rfl ?_
      refine ok_iload_n dX5_stand_35 rfl rfl ?_
      refine ok_iload dX5_stand_36 rfl ?_
      refine ok_callV (M' := mX5_goTo) (b' := (0, 0)) (As := [_, _]) (cx := 5) dX5_stand_38 iX5_goTo w_910 (by decide) rfl (by first | exact is_lit hv (by decide) rfl | exact is_sq hv hq | exact is_row hv hq | exact is_pn hv hq (by assumption) | assumption) rfl (Nat.le_of_ble_eq_true rfl) ⟨Nat.le_of_ble_eq_true rfl, Nat.le_of_ble_eq_true rfl⟩ (Nat.le_of_ble_eq_true rfl) rfl rfl ?_
      refine sp_X5_goTo hv R hj hi (fun h1 M1 R1 => ?_)
      have hv := M1.inv hv
      refine ok_aload_n dX5_stand_41 rfl rfl ?_
      refine ok_iload dX5_stand_42 rfl ?_
      refine ok_callV (M' := mX5_gainNow) (b' := (0, 0)) (As := [_]) (cx := 5) dX5_stand_44 iX5_gainNow w_972 (by decide) rfl (by first | exact is_lit hv (by decide) rfl | exact is_sq hv hq | exact is_row hv hq | exact is_pn hv hq (by assumption) | assumption) rfl (Nat.le_of_ble_eq_true rfl) ⟨Nat.le_of_ble_eq_true rfl, Nat.le_of_ble_eq_true rfl⟩ (Nat.le_of_ble_eq_true rfl) rfl rfl ?_
      refine sp_X5_gainNow hv R1 (G.pm (fun p hp => mv_lt hj hi hp)) hi (fun h2 M2 => ?_)
      have hv := M2.1.inv hv
      have R2 := M2.rm R1
      refine ok_istore (lo' := [_, _, _, _, _, _]) dX5_stand_47 (Nat.le_of_ble_eq_true rfl) rfl rfl ?_
      refine ok_aload_n dX5_stand_49 rfl rfl ?_
      refine ok_iload dX5_stand_50 rfl ?_
      refine ok_iload_n dX5_stand_52 rfl rfl ?_
      refine ok_callV (M' := mX5_goTo) (b' := (0, 0)) (As := [_, _]) (cx := 5) dX5_stand_53 iX5_goTo w_910 (by decide) rfl (by first | exact is_lit hv (by decide) rfl | exact is_sq hv hq | exact is_row hv hq | exact is_pn hv hq (by assumption) | assumption) rfl (Nat.le_of_ble_eq_true rfl) ⟨Nat.le_of_ble_eq_true rfl, Nat.le_of_ble_eq_true rfl⟩ (Nat.le_of_ble_eq_true rfl) rfl rfl ?_
      refine sp_X5_goTo hv R2 hi hj (fun h3 M3 R3 => ?_)
      have hv := M3.inv hv
      refine ok_iload dX5_stand_56 rfl ?_
      refine ok_iload_n dX5_stand_58 rfl rfl ?_
      refine ok_icmp_le (tgt := 67) dX5_stand_59 (by decide) (fun _ => ?_) (fun c9 => absurd cc c9)
      refine ok_iload_n dX5_stand_67 rfl rfl ?_
      refine ok_istore_n (lo' := [_, _, _, _, _, _]) dX5_stand_68 rfl (Nat.le_of_ble_eq_true rfl) rfl rfl ?_
      refine ok_iload dX5_stand_69 rfl ?_
      refine ok_iload_n dX5_stand_71 rfl rfl ?_
      refine ok_icmp_le (tgt := 80) dX5_stand_72 (by decide) (fun _ => ?_) (fun c9 => absurd cc c9)
      refine ok_iload_n dX5_stand_80 rfl rfl ?_
      refine ok_istore_n (lo' := [_, _, _, _, _, _]) dX5_stand_81 rfl (Nat.le_of_ble_eq_true rfl) rfl rfl ?_
      refine ok_iinc (v := _ + 1) (lo' := [_, _, _, _, _, _]) dX5_stand_82 rfl rfl (Nat.le_of_ble_eq_true rfl) rfl rfl ?_
      refine ok_goto (tgt := 23) dX5_stand_85 (by decide) ?_
      rw [nI_1]
      exact e h3 (((M.tr M1.qm).tr M2.1).tr M3.qm) (pm_bk R3)
    · rw [if_neg cc] at e
      refine ok_iload dX5_stand_23 rfl ?_
      refine ok_aload_n dX5_stand_25 rfl rfl ?_
      refine ok_getR dX5_stand_26 f_X5_7 (by first | exact is_lit hv (by decide) rfl | exact is_sq hv hq | exact is_row hv hq | exact is_pn hv hq (by assumption) | assumption) rfl (by first | exact rf hv rfl | exact rf_row hv hq | assumption) ?_
      refine ok_iconst (v := 0) dX5_stand_29 (by decide) ?_
      refine ok_iaload dX5_stand_30 (is_lit hv (by decide) rfl) (by unfold vp_in; decide) ?_
      rw [show hI h 50 (Int32.toNatClampNeg 0) = nI n from (R.2.2.1 0 (by decide)).trans R.2.1]
      refine ok_icmp_ge (tgt := 88) dX5_stand_31 (by decide) (fun c9 => absurd c9 (nI_ge hi (by omega))) (fun _ => ?_)
      refine ok_aload_n dX5_stand_34 rfl rfl ?_
      refine ok_iload_n dX5_stand_35 rfl rfl ?_
      refine ok_iload dX5_stand_36 rfl ?_
      refine ok_callV (M' := mX5_goTo) (b' := (0, 0)) (As := [_, _]) (cx := 5) dX5_stand_38 iX5_goTo w_910 (by decide) rfl (by first | exact is_lit hv (by decide) rfl | exact is_sq hv hq | exact is_row hv hq | exact is_pn hv hq (by assumption) | assumption) rfl (Nat.le_of_ble_eq_true rfl) ⟨Nat.le_of_ble_eq_true rfl, Nat.le_of_ble_eq_true rfl⟩ (Nat.le_of_ble_eq_true rfl) rfl rfl ?_
      refine sp_X5_goTo hv R hj hi (fun h1 M1 R1 => ?_)
      have hv := M1.inv hv
      refine ok_aload_n dX5_stand_41 rfl rfl ?_
      refine ok_iload dX5_stand_42 rfl ?_
      refine ok_callV (M' := mX5_gainNow) (b' := (0, 0)) (As := [_]) (cx := 5) dX5_stand_44 iX5_gainNow w_972 (by decide) rfl (by first | exact is_lit hv (by decide) rfl | exact is_sq hv hq | exact is_row hv hq | exact is_pn hv hq (by assumption) | assumption) rfl (Nat.le_of_ble_eq_true rfl) ⟨Nat.le_of_ble_eq_true rfl, Nat.le_of_ble_eq_true rfl⟩ (Nat.le_of_ble_eq_true rfl) rfl rfl ?_
      refine sp_X5_gainNow hv R1 (G.pm (fun p hp => mv_lt hj hi hp)) hi (fun h2 M2 => ?_)
      have hv := M2.1.inv hv
      have R2 := M2.rm R1
      refine ok_istore (lo' := [_, _, _, _, _, _]) dX5_stand_47 (Nat.le_of_ble_eq_true rfl) rfl rfl ?_
      refine ok_aload_n dX5_stand_49 rfl rfl ?_
      refine ok_iload dX5_stand_50 rfl ?_
      refine ok_iload_n dX5_stand_52 rfl rfl ?_
      refine ok_callV (M' := mX5_goTo) (b' := (0, 0)) (As := [_, _]) (cx := 5) dX5_stand_53 iX5_goTo w_910 (by decide) rfl (by first | exact is_lit hv (by decide) rfl | exact is_sq hv hq | exact is_row hv hq | exact is_pn hv hq (by assumption) | assumption) rfl (Nat.le_of_ble_eq_true rfl) ⟨Nat.le_of_ble_eq_true rfl, Nat.le_of_ble_eq_true rfl⟩ (Nat.le_of_ble_eq_true rfl) rfl rfl ?_
      refine sp_X5_goTo hv R2 hi hj (fun h3 M3 R3 => ?_)
      have hv := M3.inv hv
      refine ok_iload dX5_stand_56 rfl ?_
      refine ok_iload_n dX5_stand_58 rfl rfl ?_
      refine ok_icmp_le (tgt := 67) dX5_stand_59 (by decide) (fun c9 => absurd c9 cc) (fun _ => ?_)
      refine ok_iload dX5_stand_62 rfl ?_
      refine ok_goto (tgt := 68) dX5_stand_64 (by decide) ?_
      refine ok_istore_n (lo' := [_, _, _, _, _, _]) dX5_stand_68 rfl (Nat.le_of_ble_eq_true rfl) rfl rfl ?_
      refine ok_iload dX5_stand_69 rfl ?_
      refine ok_iload_n dX5_stand_71 rfl rfl ?_
      refine ok_icmp_le (tgt := 80) dX5_stand_72 (by decide) (fun c9 => absurd c9 cc) (fun _ => ?_)
      refine ok_iload dX5_stand_75 rfl ?_
      refine ok_goto (tgt := 81) dX5_stand_77 (by decide) ?_
      refine ok_istore_n (lo' := [_, _, _, _, _, _]) dX5_stand_81 rfl (Nat.le_of_ble_eq_true rfl) rfl rfl ?_
      refine ok_iinc (v := _ + 1) (lo' := [_, _, _, _, _, _]) dX5_stand_82 rfl rfl (Nat.le_of_ble_eq_true rfl) rfl rfl ?_
      refine ok_goto (tgt := 23) dX5_stand_85 (by decide) ?_
      rw [nI_1]
      exact e h3 (((M.tr M1.qm).tr M2.1).tr M3.qm) (pm_bk R3)
theorem sp_X5_stand {g : GG} {h : Hp} {Post : Option Value → Hp → Prop} (hv : Inv h) {n : Nat} {r : Nat → Int32} (R : RM 50 h n r) (G : RG r n) {j : Nat} (hj : j < n) (K : ∀ h', QM h h' → RM 50 h' n r → Post (some (.int (nI (am (fun t => w_gain (w_pm r (mv j t)) n (-1) 0 t) (n - 1)).1))) h') : Sp g mX5_stand [.ref 49, .int (nI j)] h Post := by
  show Go g mX5_stand 0 [_, _, _, _, _, _] [] _ _ _
  rw [← a0_am (c := -999999) (f := (fun t => w_gain (w_pm r (mv j t)) n (-1) 0 t)) (gain_lo (G.pm (fun p hp => mv_lt hj (by omega) hp)) (by omega)) (n - 1), show n - 1 + 1 = n by omega] at K
  refine ok_aload_n dX5_stand_0 rfl rfl ?_
  refine ok_iload_n dX5_stand_1 rfl rfl ?_
  refine ok_callV (M' := mX5_isOne) (b' := (0, 0)) (As := [_]) (cx := 5) dX5_stand_2 iX5_isOne w_867 (by decide) rfl (by first | exact is_lit hv (by decide) rfl | exact is_sq hv hq | exact is_row hv hq | exact is_pn hv hq (by assumption) | assumption) rfl (Nat.le_of_ble_eq_true rfl) ⟨Nat.le_of_ble_eq_true rfl, Nat.le_of_ble_eq_true rfl⟩ (Nat.le_of_ble_eq_true rfl) rfl rfl ?_
  refine sp_X5_isOne hv R _ ?_
  rw [one_ok R.1 hj]
  refine ok_if_ne (tgt := 15) dX5_stand_5 (by decide) (fun _ => ?_) (fun c9 => absurd c9 (by decide))
  refine ok_iconst (v := 0) dX5_stand_15 (by decide) ?_
  refine ok_istore_n (lo' := [_, _, _, _, _, _]) dX5_stand_16 rfl (Nat.le_of_ble_eq_true rfl) rfl rfl ?_
  refine ok_ldc dX5_stand_17 w_1033 ?_
  refine ok_istore_n (lo' := [_, _, _, _, _, _]) dX5_stand_19 rfl (Nat.le_of_ble_eq_true rfl) rfl rfl ?_
  refine ok_iconst (v := 0) dX5_stand_20 (by decide) ?_
  refine ok_istore (lo' := [_, _, _, _, _, _]) dX5_stand_21 (Nat.le_of_ble_eq_true rfl) rfl rfl ?_
  exact lp_X5_stand_23 hv G hj K n 0 h _ (by omega) QM.rf R
theorem sp_X5_kind_b {g : GG} {h : Hp} {Post : Option Value → Hp → Prop} (hv : Inv h) {n : Nat} {r : Nat → Int32} (R : RM 50 h n r) (p : Int32) (hb : p < 0 ∨ nI n ≤ p) (K : Post (some (.int (-1000000001))) (hfm h 0)) : Sp g mX5_kind [.ref 49, .int p] h Post := by
  show Go g mX5_kind 0 [_, _, _, _, _, _, _] [] _ _ _
  refine ok_aload_n dX5_kind_0 rfl rfl ?_
  refine ok_iload_n dX5_kind_1 rfl rfl ?_
  refine ok_callV (M' := mX5_isOne) (b' := (0, 0)) (As := [_]) (cx := 5) dX5_kind_2 iX5_isOne w_867 (by decide) rfl (by first | exact is_lit hv (by decide) rfl | exact is_sq hv hq | exact is_row hv hq | exact is_pn hv hq (by assumption) | assumption) rfl (Nat.le_of_ble_eq_true rfl) ⟨Nat.le_of_ble_eq_true rfl, Nat.le_of_ble_eq_true rfl⟩ (Nat.le_of_ble_eq_true rfl) rfl rfl ?_
  refine sp_X5_isOne hv R _ ?_
  rw [one_bad R.1 hb]
  refine ok_if_ne (tgt := 15) dX5_kind_5 (by decide) (fun c9 => absurd c9 (fun c => c rfl)) (fun _ => ?_)
  refine ok_aload_n dX5_kind_8 rfl rfl ?_
  refine ok_ldc dX5_kind_9 w_849 ?_
  refine ok_callV (M' := mX5_finds) (b' := (0, 0)) (As := [_]) (cx := 5) dX5_kind_11 iX5_finds w_850 (by decide) rfl (by first | exact is_lit hv (by decide) rfl | exact is_sq hv hq | exact is_row hv hq | exact is_pn hv hq (by assumption) | assumption) rfl (Nat.le_of_ble_eq_true rfl) ⟨Nat.le_of_ble_eq_true rfl, Nat.le_of_ble_eq_true rfl⟩ (Nat.le_of_ble_eq_true rfl) rfl rfl ?_
  refine sp_X5_finds hv (k := 0) (by decide) (by decide) ?_
  refine ok_ireturn dX5_kind_14 rfl rfl ?_
  first | exact K | (simp only [↓reduceIte] at K; exact K)
theorem lp_X5_kind_31 {g : GG} {h0 : Hp} {Post : Option Value → Hp → Prop} (hv0 : Inv h0) {n : Nat} {r : Nat → Int32} (G : RG r n) {j : Nat} (hj : j < n) (K : ∀ h', QM h0 h' → RM 50 h' n r → Post (some (.int (nI (a0 (-999999) (fun k => w_gain (w_set r (7 + 7 * j + 0) (nI k)) n (-1) 0 j) 6).1))) h') : ∀ (k i : Nat) (h : Hp) (x : Int32) (x6 : Option Value), i + k = 6 → QM h0 h → RM 50 h n (w_set r (7 + 7 * j + 0) x) → Go g mX5_kind 31 [some (.ref 49), some (.int (nI j)), some (.int (ro r j 0)), some (.int (nI (a0 (-999999) (fun k => w_gain (w_set r (7 + 7 * j + 0) (nI k)) n (-1) 0 j) i).1)), some (.int (a0 (-999999) (fun k => w_gain (w_set r (7 + 7 * j + 0) (nI k)) n (-1) 0 j) i).2), some (.int (nI i)), x6] [] h (0, 0) Post := by
  intro k
  induction k with
  | zero =>
    intro i h x x6 hik M R
    obtain rfl : i = 6 := by omega
    have hv := M.inv hv0
    have hn := R.1
    have R2 := R.u (k := 7 + 7 * j + 0) (v := ro r j 0) (by omega)
    rw [set_set, show ro r j 0 = r (7 + 7 * j + 0) from rfl, set_self] at R2
    refine ok_iload dX5_kind_31 rfl ?_
    refine ok_iconst (v := 5) dX5_kind_33 (by decide) ?_
    refine ok_icmp_gt (tgt := 88) dX5_kind_34 (by decide) (fun _ => ?_) (fun c9 => absurd (by decide) c9)
    refine ok_aload_n dX5_kind_88 rfl rfl ?_
    refine ok_iload_n dX5_kind_89 rfl rfl ?_
    refine ok_iconst (v := 0) dX5_kind_90 (by decide) ?_
    refine ok_iload_n dX5_kind_91 rfl rfl ?_
    refine ok_callV (M' := mX5_sets) (b' := (0, 0)) (As := [_, _, _]) (cx := 5) dX5_kind_92 iX5_sets w_859 (by decide) rfl (by first | exact is_lit hv (by decide) rfl | exact is_sq hv hq | exact is_row hv hq | exact is_pn hv hq (by assumption) | assumption) rfl (Nat.le_of_ble_eq_true rfl) ⟨Nat.le_of_ble_eq_true rfl, Nat.le_of_ble_eq_true rfl⟩ (Nat.le_of_ble_eq_true rfl) rfl rfl ?_
    refine sp_X5_sets (p := j) (f := 0) hv (by omega) (by decide) _ ?_
    refine ok_iload_n dX5_kind_95 rfl rfl ?_
    refine ok_ireturn dX5_kind_96 rfl rfl ?_
    exact K _ (M.u (by omega)) R2
  | succ k ih =>
    intro i h x x6 hik M R
    have hi : i < 6 := by omega
    have hv := M.inv hv0
    have hn := R.1
    have R2 := R.u (k := 7 + 7 * j + 0) (v := nI i) (by omega)
    rw [set_set] at R2
    have M2 := M.u (a := 50) (k := 7 + 7 * j + 0) (v := nI i) (by omega)
    have e := fun h1 M1 R1 => ih (i + 1) h1 (nI i) (some (.int (w_gain (w_set r (7 + 7 * j + 0) (nI i)) n (-1) 0 j))) (by omega) M1 R1
    rw [a0] at e
    by_cases cc : w_gain (w_set r (7 + 7 * j + 0) (nI i)) n (-1) 0 j ≤ (a0 (-999999) (fun k => w_gain (w_set r (7 + 7 * j + 0) (nI k)) n (-1) 0 j) i).2
    · rw [if_pos cc] at e
      refine ok_iload dX5_kind_31 rfl ?_
      refine ok_iconst (v := 5) dX5_kind_33 (by decide) ?_
      refine ok_icmp_gt (tgt := 88) dX5_kind_34 (by decide) (fun c9 => absurd c9 (nI_nlt (a := 5) (b := i) (by omega) (by decide))) (fun _ => ?_)
      refine ok_aload_n dX5_kind_37 rfl rfl ?_
      refine ok_iload_n dX5_kind_38 rfl rfl ?_
      refine ok_iconst (v := 0) dX5_kind_39 (by decide) ?_
      refine ok_iload dX5_kind_40 rfl ?_
      refine ok_callV (M' := mX5_sets) (b' := (0, 0)) (As := [_, _, _]) (cx := 5) dX5_kind_42 iX5_sets w_859 (by decide) rfl (by first | exact is_lit hv (by decide) rfl | exact is_sq hv hq | exact is_row hv hq | exact is_pn hv hq (by assumption) | assumption) rfl (Nat.le_of_ble_eq_true rfl) ⟨Nat.le_of_ble_eq_true rfl, Nat.le_of_ble_eq_true rfl⟩ (Nat.le_of_ble_eq_true rfl) rfl rfl ?_
      refine sp_X5_sets (p := j) (f := 0) hv (by omega) (by decide) _ ?_
      refine ok_aload_n dX5_kind_45 rfl rfl ?_
      refine ok_iload_n dX5_kind_46 rfl rfl ?_
      refine ok_callV (M' := mX5_gainNow) (b' := (0, 0)) (As := [_]) (cx := 5) dX5_kind_47 iX5_gainNow w_972 (by decide) rfl (by first | exact is_lit hv (by decide) rfl | exact is_sq hv hq | exact is_row hv hq | exact is_pn hv hq (by assumption) | assumption) rfl (Nat.le_of_ble_eq_true rfl) ⟨Nat.le_of_ble_eq_true rfl, Nat.le_of_ble_eq_true rfl⟩ (Nat.le_of_ble_eq_true rfl) rfl rfl ?_
      refine sp_X5_gainNow (M2.inv hv0) R2 (G.kind (kd_nI hi)) hj (fun h2 M3 => ?_)
      have hv := (M2.tr M3.1).inv hv0
      have R3 := M3.rm R2
      refine ok_istore (lo' := [_, _, _, _, _, _, _]) dX5_kind_50 (Nat.le_of_ble_eq_true rfl) rfl rfl ?_
      refine ok_iload dX5_kind_52 rfl ?_
      refine ok_iload dX5_kind_54 rfl ?_
      refine ok_icmp_le (tgt := 64) dX5_kind_56 (by decide) (fun _ => ?_) (fun c9 => absurd cc c9)
      refine ok_iload_n dX5_kind_64 rfl rfl ?_
      refine ok_istore_n (lo' := [_, _, _, _, _, _, _]) dX5_kind_65 rfl (Nat.le_of_ble_eq_true rfl) rfl rfl ?_
      refine ok_iload dX5_kind_66 rfl ?_
      refine ok_iload dX5_kind_68 rfl ?_
      refine ok_icmp_le (tgt := 78) dX5_kind_70 (by decide) (fun _ => ?_) (fun c9 => absurd cc c9)
      refine ok_iload dX5_kind_78 rfl ?_
      refine ok_istore (lo' := [_, _, _, _, _, _, _]) dX5_kind_80 (Nat.le_of_ble_eq_true rfl) rfl rfl ?_
      refine ok_iinc (v := _ + 1) (lo' := [_, _, _, _, _, _, _]) dX5_kind_82 rfl rfl (Nat.le_of_ble_eq_true rfl) rfl rfl ?_
      refine ok_goto (tgt := 31) dX5_kind_85 (by decide) ?_
      rw [nI_1]
      exact e h2 (M2.tr M3.1) R3
    · rw [if_neg cc] at e
      refine ok_iload dX5_kind_31 rfl ?_
      refine ok_iconst (v := 5) dX5_kind_33 (by decide) ?_
      refine ok_icmp_gt (tgt := 88) dX5_kind_34 (by decide) (fun c9 => absurd c9 (nI_nlt (a := 5) (b := i) (by omega) (by decide))) (fun _ => ?_)
      refine ok_aload_n dX5_kind_37 rfl rfl ?_
      refine ok_iload_n dX5_kind_38 rfl rfl ?_
      refine ok_iconst (v := 0) dX5_kind_39 (by decide) ?_
      refine ok_iload dX5_kind_40 rfl ?_
      refine ok_callV (M' := mX5_sets) (b' := (0, 0)) (As := [_, _, _]) (cx := 5) dX5_kind_42 iX5_sets w_859 (by decide) rfl (by first | exact is_lit hv (by decide) rfl | exact is_sq hv hq | exact is_row hv hq | exact is_pn hv hq (by assumption) | assumption) rfl (Nat.le_of_ble_eq_true rfl) ⟨Nat.le_of_ble_eq_true rfl, Nat.le_of_ble_eq_true rfl⟩ (Nat.le_of_ble_eq_true rfl) rfl rfl ?_
      refine sp_X5_sets (p := j) (f := 0) hv (by omega) (by decide) _ ?_
      refine ok_aload_n dX5_kind_45 rfl rfl ?_
      refine ok_iload_n dX5_kind_46 rfl rfl ?_
      refine ok_callV (M' := mX5_gainNow) (b' := (0, 0)) (As := [_]) (cx := 5) dX5_kind_47 iX5_gainNow w_972 (by decide) rfl (by first | exact is_lit hv (by decide) rfl | exact is_sq hv hq | exact is_row hv hq | exact is_pn hv hq (by assumption) | assumption) rfl (Nat.le_of_ble_eq_true rfl) ⟨Nat.le_of_ble_eq_true rfl, Nat.le_of_ble_eq_true rfl⟩ (Nat.le_of_ble_eq_true rfl) rfl rfl ?_
      refine sp_X5_gainNow (M2.inv hv0) R2 (G.kind (kd_nI hi)) hj (fun h2 M3 => ?_)
      have hv := (M2.tr M3.1).inv hv0
      have R3 := M3.rm R2
      refine ok_istore (lo' := [_, _, _, _, _, _, _]) dX5_kind_50 (Nat.le_of_ble_eq_true rfl) rfl rfl ?_
      refine ok_iload dX5_kind_52 rfl ?_
      refine ok_iload dX5_kind_54 rfl ?_
      refine ok_icmp_le (tgt := 64) dX5_kind_56 (by decide) (fun c9 => absurd c9 cc) (fun _ => ?_)
      refine ok_iload dX5_kind_59 rfl ?_
      refine ok_goto (tgt := 65) dX5_kind_61 (by decide) ?_
      refine ok_istore_n (lo' := [_, _, _, _, _, _, _]) dX5_kind_65 rfl (Nat.le_of_ble_eq_true rfl) rfl rfl ?_
      refine ok_iload dX5_kind_66 rfl ?_
      refine ok_iload dX5_kind_68 rfl ?_
      refine ok_icmp_le (tgt := 78) dX5_kind_70 (by decide) (fun c9 => absurd c9 cc) (fun _ => ?_)
      refine ok_iload dX5_kind_73 rfl ?_
      refine ok_goto (tgt := 80) dX5_kind_75 (by decide) ?_
      refine ok_istore (lo' := [_, _, _, _, _, _, _]) dX5_kind_80 (Nat.le_of_ble_eq_true rfl) rfl rfl ?_
      refine ok_iinc (v := _ + 1) (lo' := [_, _, _, _, _, _, _]) dX5_kind_82 rfl rfl (Nat.le_of_ble_eq_true rfl) rfl rfl ?_
      refine ok_goto (tgt := 31) dX5_kind_85 (by decide) ?_
      rw [nI_1]
      exact e h2 (M2.tr M3.1) R3
theorem sp_X5_kind {g : GG} {h : Hp} {Post : Option Value → Hp → Prop} (hv : Inv h) {n : Nat} {r : Nat → Int32} (R : RM 50 h n r) (G : RG r n) {j : Nat} (hj : j < n) (K : ∀ h', QM h h' → RM 50 h' n r → Post (some (.int (nI (am (fun k => w_gain (w_set r (7 + 7 * j + 0) (nI k)) n (-1) 0 j) 5).1))) h') : Sp g mX5_kind [.ref 49, .int (nI j)] h Post := by
  show Go g mX5_kind 0 [_, _, _, _, _, _, _] [] _ _ _
  rw [← a0_am (c := -999999) (f := (fun k => w_gain (w_set r (7 + 7 * j + 0) (nI k)) n (-1) 0 j)) (gain_lo (G.kind (kd_nI (by decide))) hj) 5] at K
  have RS : RM 50 h n (w_set r (7 + 7 * j + 0) (ro r j 0)) := by rw [show ro r j 0 = r (7 + 7 * j + 0) from rfl, set_self]; exact R
  refine ok_aload_n dX5_kind_0 rfl rfl ?_
  refine ok_iload_n dX5_kind_1 rfl rfl ?_
  refine ok_callV (M' := mX5_isOne) (b' := (0, 0)) (As := [_]) (cx := 5) dX5_kind_2 iX5_isOne w_867 (by decide) rfl (by first | exact is_lit hv (by decide) rfl | exact is_sq hv hq | exact is_row hv hq | exact is_pn hv hq (by assumption) | assumption) rfl (Nat.le_of_ble_eq_true rfl) ⟨Nat.le_of_ble_eq_true rfl, Nat.le_of_ble_eq_true rfl⟩ (Nat.le_of_ble_eq_true rfl) rfl rfl ?_
  refine sp_X5_isOne hv R _ ?_
  rw [one_ok R.1 hj]
  refine ok_if_ne (tgt := 15) dX5_kind_5 (by decide) (fun _ => ?_) (fun c9 => absurd c9 (by decide))
  refine ok_aload_n dX5_kind_15 rfl rfl ?_
  refine ok_iload_n dX5_kind_16 rfl rfl ?_
  refine ok_iconst (v := 0) dX5_kind_17 (by decide) ?_
  refine ok_callV (M' := mX5_its) (b' := (0, 0)) (As := [_, _]) (cx := 5) dX5_kind_18 iX5_its w_871 (by decide) rfl (by first | exact is_lit hv (by decide) rfl | exact is_sq hv hq | exact is_row hv hq | exact is_pn hv hq (by assumption) | assumption) rfl (Nat.le_of_ble_eq_true rfl) ⟨Nat.le_of_ble_eq_true rfl, Nat.le_of_ble_eq_true rfl⟩ (Nat.le_of_ble_eq_true rfl) rfl rfl ?_
  refine sp_X5_its (f := 0) hv R hj (by decide) ?_
  refine ok_istore_n (lo' := [_, _, _, _, _, _, _]) dX5_kind_21 rfl (Nat.le_of_ble_eq_true rfl) rfl rfl ?_
  refine ok_iconst (v := 0) dX5_kind_22 (by decide) ?_
  refine ok_istore_n (lo' := [_, _, _, _, _, _, _]) dX5_kind_23 rfl (Nat.le_of_ble_eq_true rfl) rfl rfl ?_
  refine ok_ldc dX5_kind_24 w_1033 ?_
  refine ok_istore (lo' := [_, _, _, _, _, _, _]) dX5_kind_26 (Nat.le_of_ble_eq_true rfl) rfl rfl ?_
  refine ok_iconst (v := 0) dX5_kind_28 (by decide) ?_
  refine ok_istore (lo' := [_, _, _, _, _, _, _]) dX5_kind_29 (Nat.le_of_ble_eq_true rfl) rfl rfl ?_
  exact lp_X5_kind_31 hv G hj K 6 0 h _ _ (by omega) QM.rf RS
theorem sp_X5_allWith {g : GG} {h : Hp} {Post : Option Value → Hp → Prop} (hv : Inv h) {n : Nat} {r : Nat → Int32} (R : RM 50 h n r) (G : RG r n) {s l : Int32} (hs : B01 s) (hl : (if s = 0 then 0 else l) = l) (K : ∀ h', QM h h' → RM 50 h' n r → Post (some (.int (w_sum (w_gain (w_div r s l) n (-1) 0) n))) h') : Sp g mX5_allWith [.ref 49, .int s, .int l] h Post := by
  show Go g mX5_allWith 0 [_, _, _, _, _, _] [] _ _ _
  have RD := (R.u (k := 3) (v := s) (by decide)).u (k := 4) (v := l) (by decide)
  have MD : QM h (uI (uI h 50 3 s) 50 4 l) := (QM.rf.u (by omega)).u (by omega)
  have GD : RG (w_set (w_set r 3 s) 4 l) n := by have e := G.div hs l; unfold w_div at e; rw [hl] at e; exact e
  unfold w_div at K
  rw [hl] at K
  refine ok_aload_n dX5_allWith_0 rfl rfl ?_
  refine ok_getR dX5_allWith_1 f_X5_7 (by first | exact is_lit hv (by decide) rfl | exact is_sq hv hq | exact is_row hv hq | exact is_pn hv hq (by assumption) | assumption) rfl (by first | exact rf hv rfl | exact rf_row hv hq | assumption) ?_
  refine ok_iconst (v := 3) dX5_allWith_4 (by decide) ?_
  refine ok_iaload dX5_allWith_5 (is_lit hv (by decide) rfl) (by unfold vp_in; decide) ?_
  rw [show hI h 50 (Int32.toNatClampNeg 3) = r 3 from R.2.2.1 3 (by decide)]
  refine ok_istore_n (lo' := [_, _, _, _, _, _]) dX5_allWith_6 rfl (Nat.le_of_ble_eq_true rfl) rfl rfl ?_
  refine ok_aload_n dX5_allWith_7 rfl rfl ?_
  refine ok_getR dX5_allWith_8 f_X5_7 (by first | exact is_lit hv (by decide) rfl | exact is_sq hv hq | exact is_row hv hq | exact is_pn hv hq (by assumption) | assumption) rfl (by first | exact rf hv rfl | exact rf_row hv hq | assumption) ?_
  refine ok_iconst (v := 4) dX5_allWith_11 (by decide) ?_
  refine ok_iaload dX5_allWith_12 (is_lit hv (by decide) rfl) (by unfold vp_in; decide) ?_
  rw [show hI h 50 (Int32.toNatClampNeg 4) = r 4 from R.2.2.1 4 (by decide)]
  refine ok_istore (lo' := [_, _, _, _, _, _]) dX5_allWith_13 (Nat.le_of_ble_eq_true rfl) rfl rfl ?_
  refine ok_aload_n dX5_allWith_15 rfl rfl ?_
  refine ok_getR dX5_allWith_16 f_X5_7 (by first | exact is_lit hv (by decide) rfl | exact is_sq hv hq | exact is_row hv hq | exact is_pn hv hq (by assumption) | assumption) rfl (by first | exact rf hv rfl | exact rf_row hv hq | assumption) ?_
  refine ok_iconst (v := 3) dX5_allWith_19 (by decide) ?_
  refine ok_iload_n dX5_allWith_20 rfl rfl ?_
  refine ok_iastore dX5_allWith_21 (is_lit hv (by decide) rfl) (by unfold vp_in; decide) ?_
  refine ok_aload_n dX5_allWith_22 rfl rfl ?_
  refine ok_getR dX5_allWith_23 f_X5_7 (by first | exact is_lit hv (by decide) rfl | exact is_sq hv hq | exact is_row hv hq | exact is_pn hv hq (by assumption) | assumption) rfl (by first | exact rf hv rfl | exact rf_row hv hq | assumption) ?_
  refine ok_iconst (v := 4) dX5_allWith_26 (by decide) ?_
  refine ok_iload_n dX5_allWith_27 rfl rfl ?_
  refine ok_iastore dX5_allWith_28 (is_lit hv (by decide) rfl) (by unfold vp_in; decide) ?_
  refine ok_aload_n dX5_allWith_29 rfl rfl ?_
  refine ok_callV (M' := mX5_gainOfAll) (b' := (0, 0)) (As := []) (cx := 5) dX5_allWith_30 iX5_gainOfAll w_984 (by decide) rfl (by first | exact is_lit hv (by decide) rfl | exact is_sq hv hq | exact is_row hv hq | exact is_pn hv hq (by assumption) | assumption) rfl (Nat.le_of_ble_eq_true rfl) ⟨Nat.le_of_ble_eq_true rfl, Nat.le_of_ble_eq_true rfl⟩ (Nat.le_of_ble_eq_true rfl) rfl rfl ?_
  refine sp_X5_gainOfAll (MD.inv hv) RD GD (fun h1 M1 => ?_)
  have R1 := ((M1.rm RD).u (k := 3) (v := r 3) (by decide)).u (k := 4) (v := r 4) (by decide)
  rw [set_div] at R1
  have hv := (MD.tr M1.1).inv hv
  refine ok_istore (lo' := [_, _, _, _, _, _]) dX5_allWith_33 (Nat.le_of_ble_eq_true rfl) rfl rfl ?_
  refine ok_aload_n dX5_allWith_35 rfl rfl ?_
  refine ok_getR dX5_allWith_36 f_X5_7 (by first | exact is_lit hv (by decide) rfl | exact is_sq hv hq | exact is_row hv hq | exact is_pn hv hq (by assumption) | assumption) rfl (by first | exact rf hv rfl | exact rf_row hv hq | assumption) ?_
  refine ok_iconst (v := 3) dX5_allWith_39 (by decide) ?_
  refine ok_iload_n dX5_allWith_40 rfl rfl ?_
  refine ok_iastore dX5_allWith_41 (is_lit hv (by decide) rfl) (by unfold vp_in; decide) ?_
  refine ok_aload_n dX5_allWith_42 rfl rfl ?_
  refine ok_getR dX5_allWith_43 f_X5_7 (by first | exact is_lit hv (by decide) rfl | exact is_sq hv hq | exact is_row hv hq | exact is_pn hv hq (by assumption) | assumption) rfl (by first | exact rf hv rfl | exact rf_row hv hq | assumption) ?_
  refine ok_iconst (v := 4) dX5_allWith_46 (by decide) ?_
  refine ok_iload dX5_allWith_47 rfl ?_
  refine ok_iastore dX5_allWith_49 (is_lit hv (by decide) rfl) (by unfold vp_in; decide) ?_
  refine ok_iload dX5_allWith_50 rfl ?_
  refine ok_ireturn dX5_allWith_52 rfl rfl ?_
  exact K _ (((MD.tr M1.1).u (by omega)).u (by omega)) R1
theorem lp_X5_lie_14 {g : GG} {h0 : Hp} {Post : Option Value → Hp → Prop} (hv0 : Inv h0) {n : Nat} {r : Nat → Int32} (G : RG r n) (K : ∀ h', QM h0 h' → RM 50 h' n r → Post (some (.int (nI (am (fun i => w_sum (w_gain (w_div r 1 (nI i - 20)) n (-1) 0) n) 40).1 - 20))) h') : ∀ (k i : Nat) (h : Hp) (x4 : Option Value), i + k = 40 → QM h0 h → RM 50 h n r → Go g mX5_lie 14 [some (.ref 49), some (.int (nI (am (fun i => w_sum (w_gain (w_div r 1 (nI i - 20)) n (-1) 0) n) i).1 - 20)), some (.int (am (fun i => w_sum (w_gain (w_div r 1 (nI i - 20)) n (-1) 0) n) i).2), some (.int (nI (i + 1) - 20)), x4] [] h (0, 0) Post := by
  intro k
  induction k with
  | zero =>
    intro i h x4 hik M R
    obtain rfl : i = 40 := by omega
    refine ok_iload_n dX5_lie_14 rfl rfl ?_
    refine ok_bipush (v := 20) dX5_lie_15 (by decide) ?_
    refine ok_icmp_gt (tgt := 59) dX5_lie_17 (by decide) (fun _ => ?_) (fun c9 => absurd (by decide) c9)
    refine ok_iload_n dX5_lie_59 rfl rfl ?_
    refine ok_ireturn dX5_lie_60 rfl rfl ?_
    exact K h M R
  | succ k ih =>
    intro i h x4 hik M R
    have hi : i < 40 := by omega
    have hv := M.inv hv0
    have e := fun h1 M1 R1 => ih (i + 1) h1 (some (.int (w_sum (w_gain (w_div r 1 (nI (i + 1) - 20)) n (-1) 0) n))) (by omega) M1 R1
    rw [am] at e
    by_cases cc : w_sum (w_gain (w_div r 1 (nI (i + 1) - 20)) n (-1) 0) n ≤ (am (fun i => w_sum (w_gain (w_div r 1 (nI i - 20)) n (-1) 0) n) i).2
    · rw [if_pos cc] at e
      refine ok_iload_n dX5_lie_14 rfl rfl ?_
      refine ok_bipush (v := 20) dX5_lie_15 (by decide) ?_
      refine ok_icmp_gt (tgt := 59) dX5_lie_17 (by decide) (fun c9 => absurd c9 (lie_c (i + 1) (by omega))) (fun _ => ?_)
      refine ok_aload_n dX5_lie_20 rfl rfl ?_
      refine ok_iconst (v := 1) dX5_lie_21 (by decide) ?_
      refine ok_iload_n dX5_lie_22 rfl rfl ?_
      refine ok_callV (M' := mX5_allWith) (b' := (0, 0)) (As := [_, _]) (cx := 5) dX5_lie_23 iX5_allWith w_1042 (by decide) rfl (by first | exact is_lit hv (by decide) rfl | exact is_sq hv hq | exact is_row hv hq | exact is_pn hv hq (by assumption) | assumption) rfl (Nat.le_of_ble_eq_true rfl) ⟨Nat.le_of_ble_eq_true rfl, Nat.le_of_ble_eq_true rfl⟩ (Nat.le_of_ble_eq_true rfl) rfl rfl ?_
      refine sp_X5_allWith (s := 1) hv R G (Or.inr rfl) (if_neg (by decide)) (fun h1 M1 R1 => ?_)
      refine ok_istore (lo' := [_, _, _, _, _]) dX5_lie_26 (Nat.le_of_ble_eq_true rfl) rfl rfl ?_
      refine ok_iload dX5_lie_28 rfl ?_
      refine ok_iload_n dX5_lie_30 rfl rfl ?_
      refine ok_icmp_le (tgt := 38) dX5_lie_31 (by decide) (fun _ => ?_) (fun c9 => absurd cc c9)
      refine ok_iload_n dX5_lie_38 rfl rfl ?_
      refine ok_istore_n (lo' := [_, _, _, _, _]) dX5_lie_39 rfl (Nat.le_of_ble_eq_true rfl) rfl rfl ?_
      refine ok_iload dX5_lie_40 rfl ?_
      refine ok_iload_n dX5_lie_42 rfl rfl ?_
      refine ok_icmp_le (tgt := 51) dX5_lie_43 (by decide) (fun _ => ?_) (fun c9 => absurd cc c9)
      refine ok_iload_n dX5_lie_51 rfl rfl ?_
      refine ok_istore_n (lo' := [_, _, _, _, _]) dX5_lie_52 rfl (Nat.le_of_ble_eq_true rfl) rfl rfl ?_
      refine ok_iinc (v := _ + 1) (lo' := [_, _, _, _, _]) dX5_lie_53 rfl rfl (Nat.le_of_ble_eq_true rfl) rfl rfl ?_
      refine ok_goto (tgt := 14) dX5_lie_56 (by decide) ?_
      rw [lie_1]
      exact e h1 (M.tr M1) R1
    · rw [if_neg cc] at e
      refine ok_iload_n dX5_lie_14 rfl rfl ?_
      refine ok_bipush (v := 20) dX5_lie_15 (by decide) ?_
      refine ok_icmp_gt (tgt := 59) dX5_lie_17 (by decide) (fun c9 => absurd c9 (lie_c (i + 1) (by omega))) (fun _ => ?_)
      refine ok_aload_n dX5_lie_20 rfl rfl ?_
      refine ok_iconst (v := 1) dX5_lie_21 (by decide) ?_
      refine ok_iload_n dX5_lie_22 rfl rfl ?_
      refine ok_callV (M' := mX5_allWith) (b' := (0, 0)) (As := [_, _]) (cx := 5) dX5_lie_23 iX5_allWith w_1042 (by decide) rfl (by first | exact is_lit hv (by decide) rfl | exact is_sq hv hq | exact is_row hv hq | exact is_pn hv hq (by assumption) | assumption) rfl (Nat.le_of_ble_eq_true rfl) ⟨Nat.le_of_ble_eq_true rfl, Nat.le_of_ble_eq_true rfl⟩ (Nat.le_of_ble_eq_true rfl) rfl rfl ?_
      refine sp_X5_allWith (s := 1) hv R G (Or.inr rfl) (if_neg (by decide)) (fun h1 M1 R1 => ?_)
      refine ok_istore (lo' := [_, _, _, _, _]) dX5_lie_26 (Nat.le_of_ble_eq_true rfl) rfl rfl ?_
      refine ok_iload dX5_lie_28 rfl ?_
      refine ok_iload_n dX5_lie_30 rfl rfl ?_
      refine ok_icmp_le (tgt := 38) dX5_lie_31 (by decide) (fun c9 => absurd c9 cc) (fun _ => ?_)
      refine ok_iload_n dX5_lie_34 rfl rfl ?_
      refine ok_goto (tgt := 39) dX5_lie_35 (by decide) ?_
      refine ok_istore_n (lo' := [_, _, _, _, _]) dX5_lie_39 rfl (Nat.le_of_ble_eq_true rfl) rfl rfl ?_
      refine ok_iload dX5_lie_40 rfl ?_
      refine ok_iload_n dX5_lie_42 rfl rfl ?_
      refine ok_icmp_le (tgt := 51) dX5_lie_43 (by decide) (fun c9 => absurd c9 cc) (fun _ => ?_)
      refine ok_iload dX5_lie_46 rfl ?_
      refine ok_goto (tgt := 52) dX5_lie_48 (by decide) ?_
      refine ok_istore_n (lo' := [_, _, _, _, _]) dX5_lie_52 rfl (Nat.le_of_ble_eq_true rfl) rfl rfl ?_
      refine ok_iinc (v := _ + 1) (lo' := [_, _, _, _, _]) dX5_lie_53 rfl rfl (Nat.le_of_ble_eq_true rfl) rfl rfl ?_
      refine ok_goto (tgt := 14) dX5_lie_56 (by decide) ?_
      rw [lie_1]
      exact e h1 (M.tr M1) R1
theorem sp_X5_lie {g : GG} {h : Hp} {Post : Option Value → Hp → Prop} (hv : Inv h) {n : Nat} {r : Nat → Int32} (R : RM 50 h n r) (G : RG r n) (K : ∀ h', QM h h' → RM 50 h' n r → Post (some (.int (nI (am (fun i => w_sum (w_gain (w_div r 1 (nI i - 20)) n (-1) 0) n) 40).1 - 20))) h') : Sp g mX5_lie [.ref 49] h Post := by
  show Go g mX5_lie 0 [_, _, _, _, _] [] _ _ _
  refine ok_bipush (v := -20) dX5_lie_0 (by decide) ?_
  refine ok_istore_n (lo' := [_, _, _, _, _]) dX5_lie_2 rfl (Nat.le_of_ble_eq_true rfl) rfl rfl ?_
  refine ok_aload_n dX5_lie_3 rfl rfl ?_
  refine ok_iconst (v := 1) dX5_lie_4 (by decide) ?_
  refine ok_bipush (v := -20) dX5_lie_5 (by decide) ?_
  refine ok_callV (M' := mX5_allWith) (b' := (0, 0)) (As := [_, _]) (cx := 5) dX5_lie_7 iX5_allWith w_1042 (by decide) rfl (by first | exact is_lit hv (by decide) rfl | exact is_sq hv hq | exact is_row hv hq | exact is_pn hv hq (by assumption) | assumption) rfl (Nat.le_of_ble_eq_true rfl) ⟨Nat.le_of_ble_eq_true rfl, Nat.le_of_ble_eq_true rfl⟩ (Nat.le_of_ble_eq_true rfl) rfl rfl ?_
  refine sp_X5_allWith (s := 1) (l := nI 0 - 20) hv R G (Or.inr rfl) (if_neg (by decide)) (fun h1 M1 R1 => ?_)
  refine ok_istore_n (lo' := [_, _, _, _, _]) dX5_lie_10 rfl (Nat.le_of_ble_eq_true rfl) rfl rfl ?_
  refine ok_bipush (v := -19) dX5_lie_11 (by decide) ?_
  refine ok_istore_n (lo' := [_, _, _, _, _]) dX5_lie_13 rfl (Nat.le_of_ble_eq_true rfl) rfl rfl ?_
  exact lp_X5_lie_14 hv G K 40 0 h1 _ (by omega) M1 R1
theorem sp_X5_word {g : GG} {h : Hp} {Post : Option Value → Hp → Prop} (hv : Inv h) {n : Nat} {r : Nat → Int32} (R : RM 50 h n r) (G : RG r n) (K : ∀ h', QM h h' → RM 50 h' n r → Post (some (.int (w_sum (w_gain (w_div r 1 0) n (-1) 0) n - w_sum (w_gain (w_div r 0 0) n (-1) 0) n))) h') : Sp g mX5_word [.ref 49] h Post := by
  show Go g mX5_word 0 [_, _] [] _ _ _
  refine ok_aload_n dX5_word_0 rfl rfl ?_
  refine ok_iconst (v := 1) dX5_word_1 (by decide) ?_
  refine ok_iconst (v := 0) dX5_word_2 (by decide) ?_
  refine ok_callV (M' := mX5_allWith) (b' := (0, 0)) (As := [_, _]) (cx := 5) dX5_word_3 iX5_allWith w_1042 (by decide) rfl (by first | exact is_lit hv (by decide) rfl | exact is_sq hv hq | exact is_row hv hq | exact is_pn hv hq (by assumption) | assumption) rfl (Nat.le_of_ble_eq_true rfl) ⟨Nat.le_of_ble_eq_true rfl, Nat.le_of_ble_eq_true rfl⟩ (Nat.le_of_ble_eq_true rfl) rfl rfl ?_
  refine sp_X5_allWith (s := 1) hv R G (Or.inr rfl) (if_neg (by decide)) (fun h1 M1 R1 => ?_)
  have hv := M1.inv hv
  refine ok_istore_n (lo' := [_, _]) dX5_word_6 rfl (Nat.le_of_ble_eq_true rfl) rfl rfl ?_
  refine ok_iload_n dX5_word_7 rfl rfl ?_
  refine ok_aload_n dX5_word_8 rfl rfl ?_
  refine ok_iconst (v := 0) dX5_word_9 (by decide) ?_
  refine ok_iconst (v := 0) dX5_word_10 (by decide) ?_
  refine ok_callV (M' := mX5_allWith) (b' := (0, 0)) (As := [_, _]) (cx := 5) dX5_word_11 iX5_allWith w_1042 (by decide) rfl (by first | exact is_lit hv (by decide) rfl | exact is_sq hv hq | exact is_row hv hq | exact is_pn hv hq (by assumption) | assumption) rfl (Nat.le_of_ble_eq_true rfl) ⟨Nat.le_of_ble_eq_true rfl, Nat.le_of_ble_eq_true rfl⟩ (Nat.le_of_ble_eq_true rfl) rfl rfl ?_
  refine sp_X5_allWith (s := 0) hv R1 G (Or.inl rfl) (if_pos rfl) (fun h2 M2 R2 => ?_)
  refine ok_isub dX5_word_14 ?_
  refine ok_ireturn dX5_word_15 rfl rfl ?_
  exact K h2 (M1.tr M2) R2
theorem paid_in {r : Nat → Int32} {n : Nat} (G : RG r n) : ∀ i, i ≤ n → 0 ≤ (w_sum (fun p => if 0 < w_thr r n (-1) 0 p then w_thr r n (-1) 0 p else 0) i).toInt ∧ (w_sum (fun p => if 0 < w_thr r n (-1) 0 p then w_thr r n (-1) 0 p else 0) i).toInt ≤ 999 * i
  | 0, _ => ⟨show 0 ≤ (0 : Int32).toInt by decide, show (0 : Int32).toInt ≤ _ by decide⟩
  | i + 1, h => by
    have hn := G.1
    have ih := paid_in G i (by omega)
    obtain ⟨u, hu, e⟩ := (G.2.2.2.2 i (by omega)).2.1
    have t := thr_in G.1 (show i < n by omega) hu e
    have e0 : (0 : Int32).toInt = 0 := rfl
    rw [w_sum]
    split
    · rename_i c
      rw [i_lt] at c
      rw [fb_addI (by omega) (by omega)]
      omega
    · rw [fb_addI (by omega) (by omega)]
      omega
theorem div_in {a b : Int32} (h0 : 0 ≤ a.toInt) (h1 : 0 < b.toInt) : 0 ≤ (a / b).toInt := by
  rw [Int32.toInt_div, Int.bmod_eq_of_le]
  · exact Int.tdiv_nonneg h0 (by omega)
  · have := Int.tdiv_nonneg h0 (show 0 ≤ b.toInt by omega)
    omega
  · have h2 := Int.tdiv_le_self b.toInt h0
    have h3 := a.toInt_lt
    omega
theorem each_lo {r : Nat → Int32} {n : Nat} (G : RG r n) : (-1 : Int32) < w_each r n := by
  have f := fill_in (w_will r n (-1) 0) n G.1
  have hn := G.1
  have e1 : (-1 : Int32).toInt = -1 := rfl
  have e0 : (0 : Int32).toInt = 0 := rfl
  have e100 : (100 : Int32).toInt = 100 := rfl
  have hm : (w_fill (w_will r n (-1) 0) n * 100).toInt = (w_fill (w_will r n (-1) 0) n).toInt * 100 := by
    rw [Int32.toInt_mul, e100, Int.bmod_eq_of_le (by omega) (by omega)]
  unfold w_each
  rw [i_lt, e1]
  split
  · rw [hm]; omega
  · rename_i c
    have c2 := i_nle.mp c
    rw [i_lt, e0] at c2
    have := div_in (a := w_fill (w_will r n (-1) 0) n * 100) (by rw [hm]; omega) c2
    omega
theorem div_1 (x : Int32) : x / 1 = x := Int32.div_one
theorem lp_X5_forEachCoin_12 {g : GG} {h : Hp} {Post : Option Value → Hp → Prop} (hv : Inv h) {n : Nat} {r : Nat → Int32} (R : RM 50 h n r) (W : Tw h n r (-1) 0) (K : Post (some (.int (w_each r n))) h) : ∀ (k i : Nat), i + k = n → Go g mX5_forEachCoin 12 [some (.ref 49), some (.int (w_sum (fun p => if 0 < w_thr r n (-1) 0 p then w_thr r n (-1) 0 p else 0) i)), some (.int (w_fill (w_will r n (-1) 0) i)), some (.int (nI i))] [] h (0, 0) Post := by
  intro k
  induction k with
  | zero =>
    intro i  hik 
    obtain rfl : i = n := by omega
    have hn := R.1
    unfold w_each at K
    refine ok_iload_n dX5_forEachCoin_12 rfl rfl ?_
    refine ok_aload_n dX5_forEachCoin_13 rfl rfl ?_
    refine ok_getR dX5_forEachCoin_14 f_X5_7 (by first | exact is_lit hv (by decide) rfl | exact is_sq hv hq | exact is_row hv hq | exact is_pn hv hq (by assumption) | assumption) rfl (by first | exact rf hv rfl | exact rf_row hv hq | assumption) ?_
    refine ok_iconst (v := 0) dX5_forEachCoin_17 (by decide) ?_
    refine ok_iaload dX5_forEachCoin_18 (is_lit hv (by decide) rfl) (by unfold vp_in; decide) ?_
    rw [show hI h 50 (Int32.toNatClampNeg 0) = nI i from (R.2.2.1 0 (by decide)).trans R.2.1]
    refine ok_icmp_ge (tgt := 66) dX5_forEachCoin_19 (by decide) (fun _ => ?_) (fun c9 => absurd (nI_le (Nat.le_refl _) (by omega)) c9)
    refine ok_bipush (v := 100) dX5_forEachCoin_66 (by decide) ?_
    refine ok_iload_n dX5_forEachCoin_68 rfl rfl ?_
    refine ok_imul dX5_forEachCoin_69 ?_
    refine ok_iload_n dX5_forEachCoin_70 rfl rfl ?_
    refine ok_if_le (tgt := 78) dX5_forEachCoin_71 (by decide) (fun c_71 => ?_) (fun c_71 => ?_)
    · refine ok_iconst (v := 1) dX5_forEachCoin_78 (by decide) ?_
      refine ok_idiv dX5_forEachCoin_79 (by first | decide | exact fun z => c_71 (by rw [z]; decide)) ?_
      refine ok_ireturn dX5_forEachCoin_80 rfl rfl ?_
      first | (rw [if_pos c_71] at K; rw [Int32.mul_comm, div_1]; exact K) | (rw [if_neg c_71] at K; rw [Int32.mul_comm]; exact K)
    · refine ok_iload_n dX5_forEachCoin_74 rfl rfl ?_
      refine ok_goto (tgt := 79) dX5_forEachCoin_75 (by decide) ?_
      refine ok_idiv dX5_forEachCoin_79 (by first | decide | exact fun z => c_71 (by rw [z]; decide)) ?_
      refine ok_ireturn dX5_forEachCoin_80 rfl rfl ?_
      first | (rw [if_pos c_71] at K; rw [Int32.mul_comm, div_1]; exact K) | (rw [if_neg c_71] at K; rw [Int32.mul_comm]; exact K)
  | succ k ih =>
    intro i  hik 
    have hi : i < n := by omega
    have hn := R.1
    have ep : hI h 53 (nI i).toNatClampNeg = w_thr r n (-1) 0 i := by rw [nI_clamp (by omega)]; exact W.2 i hi
    refine ok_iload_n dX5_forEachCoin_12 rfl rfl ?_
    refine ok_aload_n dX5_forEachCoin_13 rfl rfl ?_
    refine ok_getR dX5_forEachCoin_14 f_X5_7 (by first | exact is_lit hv (by decide) rfl | exact is_sq hv hq | exact is_row hv hq | exact is_pn hv hq (by assumption) | assumption) rfl (by first | exact rf hv rfl | exact rf_row hv hq | assumption) ?_
    refine ok_iconst (v := 0) dX5_forEachCoin_17 (by decide) ?_
    refine ok_iaload dX5_forEachCoin_18 (is_lit hv (by decide) rfl) (by unfold vp_in; decide) ?_
    rw [show hI h 50 (Int32.toNatClampNeg 0) = nI n from (R.2.2.1 0 (by decide)).trans R.2.1]
    refine ok_icmp_ge (tgt := 66) dX5_forEachCoin_19 (by decide) (fun c9 => absurd c9 (nI_ge hi (by omega))) (fun _ => ?_)
    refine ok_iload_n dX5_forEachCoin_22 rfl rfl ?_
    refine ok_aload_n dX5_forEachCoin_23 rfl rfl ?_
    refine ok_getR dX5_forEachCoin_24 f_X5_19 (by first | exact is_lit hv (by decide) rfl | exact is_sq hv hq | exact is_row hv hq | exact is_pn hv hq (by assumption) | assumption) rfl (by first | exact rf hv rfl | exact rf_row hv hq | assumption) ?_
    refine ok_iload_n dX5_forEachCoin_27 rfl rfl ?_
    refine ok_iaload dX5_forEachCoin_28 (is_lit hv (by decide) rfl) (vp_in_nI (by omega) (by decide)) ?_
    rw [ep]
    refine ok_if_le (tgt := 41) dX5_forEachCoin_29 (by decide) (fun c_29 => ?_) (fun c_29 => ?_)
    · refine ok_iconst (v := 0) dX5_forEachCoin_41 (by decide) ?_
      refine ok_iadd dX5_forEachCoin_42 ?_
      refine ok_istore_n (lo' := [_, _, _, _]) dX5_forEachCoin_43 rfl (Nat.le_of_ble_eq_true rfl) rfl rfl ?_
      refine ok_iload_n dX5_forEachCoin_44 rfl rfl ?_
      refine ok_iload_n dX5_forEachCoin_45 rfl rfl ?_
      refine ok_aload_n dX5_forEachCoin_46 rfl rfl ?_
      refine ok_getI dX5_forEachCoin_47 f_X5_104 (by first | exact is_lit hv (by decide) rfl | exact is_sq hv hq | exact is_row hv hq | exact is_pn hv hq (by assumption) | assumption) rfl ?_
      rw [W.1]
      refine ok_icmp_ge (tgt := 57) dX5_forEachCoin_50 (by decide) (fun c_50 => ?_) (fun c_50 => ?_)
      · refine ok_iconst (v := 0) dX5_forEachCoin_57 (by decide) ?_
        refine ok_iadd dX5_forEachCoin_58 ?_
        refine ok_istore_n (lo' := [_, _, _, _]) dX5_forEachCoin_59 rfl (Nat.le_of_ble_eq_true rfl) rfl rfl ?_
        refine ok_iinc (v := _ + 1) (lo' := [_, _, _, _]) dX5_forEachCoin_60 rfl rfl (Nat.le_of_ble_eq_true rfl) rfl rfl ?_
        refine ok_goto (tgt := 12) dX5_forEachCoin_63 (by decide) ?_
        rw [nI_1]
        have e := ih (i + 1) (by omega)
        rw [w_sum, w_fill] at e
        first
          | (rw [if_neg (i_nlt.mpr c_29), if_neg (i_nlt.mpr c_50)] at e; exact e)
          | (rw [if_neg (i_nlt.mpr c_29), if_pos (i_nle.mp c_50)] at e; exact e)
          | (rw [if_pos (i_nle.mp c_29), if_neg (i_nlt.mpr c_50)] at e; exact e)
          | (rw [if_pos (i_nle.mp c_29), if_pos (i_nle.mp c_50)] at e; exact e)
      · refine ok_iconst (v := 1) dX5_forEachCoin_53 (by decide) ?_
        refine ok_goto (tgt := 58) dX5_forEachCoin_54 (by decide) ?_
        refine ok_iadd dX5_forEachCoin_58 ?_
        refine ok_istore_n (lo' := [_, _, _, _]) dX5_forEachCoin_59 rfl (Nat.le_of_ble_eq_true rfl) rfl rfl ?_
        refine ok_iinc (v := _ + 1) (lo' := [_, _, _, _]) dX5_forEachCoin_60 rfl rfl (Nat.le_of_ble_eq_true rfl) rfl rfl ?_
        refine ok_goto (tgt := 12) dX5_forEachCoin_63 (by decide) ?_
        rw [nI_1]
        have e := ih (i + 1) (by omega)
        rw [w_sum, w_fill] at e
        first
          | (rw [if_neg (i_nlt.mpr c_29), if_neg (i_nlt.mpr c_50)] at e; exact e)
          | (rw [if_neg (i_nlt.mpr c_29), if_pos (i_nle.mp c_50)] at e; exact e)
          | (rw [if_pos (i_nle.mp c_29), if_neg (i_nlt.mpr c_50)] at e; exact e)
          | (rw [if_pos (i_nle.mp c_29), if_pos (i_nle.mp c_50)] at e; exact e)
    · refine ok_aload_n dX5_forEachCoin_32 rfl rfl ?_
      refine ok_getR dX5_forEachCoin_33 f_X5_19 (by first | exact is_lit hv (by decide) rfl | exact is_sq hv hq | exact is_row hv hq | exact is_pn hv hq (by assumption) | assumption) rfl (by first | exact rf hv rfl | exact rf_row hv hq | assumption) ?_
      refine ok_iload_n dX5_forEachCoin_36 rfl rfl ?_
      refine ok_iaload dX5_forEachCoin_37 (is_lit hv (by decide) rfl) (vp_in_nI (by omega) (by decide)) ?_
      rw [ep]
      refine ok_goto (tgt := 42) dX5_forEachCoin_38 (by decide) ?_
      refine ok_iadd dX5_forEachCoin_42 ?_
      refine ok_istore_n (lo' := [_, _, _, _]) dX5_forEachCoin_43 rfl (Nat.le_of_ble_eq_true rfl) rfl rfl ?_
      refine ok_iload_n dX5_forEachCoin_44 rfl rfl ?_
      refine ok_iload_n dX5_forEachCoin_45 rfl rfl ?_
      refine ok_aload_n dX5_forEachCoin_46 rfl rfl ?_
      refine ok_getI dX5_forEachCoin_47 f_X5_104 (by first | exact is_lit hv (by decide) rfl | exact is_sq hv hq | exact is_row hv hq | exact is_pn hv hq (by assumption) | assumption) rfl ?_
      rw [W.1]
      refine ok_icmp_ge (tgt := 57) dX5_forEachCoin_50 (by decide) (fun c_50 => ?_) (fun c_50 => ?_)
      · refine ok_iconst (v := 0) dX5_forEachCoin_57 (by decide) ?_
        refine ok_iadd dX5_forEachCoin_58 ?_
        refine ok_istore_n (lo' := [_, _, _, _]) dX5_forEachCoin_59 rfl (Nat.le_of_ble_eq_true rfl) rfl rfl ?_
        refine ok_iinc (v := _ + 1) (lo' := [_, _, _, _]) dX5_forEachCoin_60 rfl rfl (Nat.le_of_ble_eq_true rfl) rfl rfl ?_
        refine ok_goto (tgt := 12) dX5_forEachCoin_63 (by decide) ?_
        rw [nI_1]
        have e := ih (i + 1) (by omega)
        rw [w_sum, w_fill] at e
        first
          | (rw [if_neg (i_nlt.mpr c_29), if_neg (i_nlt.mpr c_50)] at e; exact e)
          | (rw [if_neg (i_nlt.mpr c_29), if_pos (i_nle.mp c_50)] at e; exact e)
          | (rw [if_pos (i_nle.mp c_29), if_neg (i_nlt.mpr c_50)] at e; exact e)
          | (rw [if_pos (i_nle.mp c_29), if_pos (i_nle.mp c_50)] at e; exact e)
      · refine ok_iconst (v := 1) dX5_forEachCoin_53 (by decide) ?_
        refine ok_goto (tgt := 58) dX5_forEachCoin_54 (by decide) ?_
        refine ok_iadd dX5_forEachCoin_58 ?_
        refine ok_istore_n (lo' := [_, _, _, _]) dX5_forEachCoin_59 rfl (Nat.le_of_ble_eq_true rfl) rfl rfl ?_
        refine ok_iinc (v := _ + 1) (lo' := [_, _, _, _]) dX5_forEachCoin_60 rfl rfl (Nat.le_of_ble_eq_true rfl) rfl rfl ?_
        refine ok_goto (tgt := 12) dX5_forEachCoin_63 (by decide) ?_
        rw [nI_1]
        have e := ih (i + 1) (by omega)
        rw [w_sum, w_fill] at e
        first
          | (rw [if_neg (i_nlt.mpr c_29), if_neg (i_nlt.mpr c_50)] at e; exact e)
          | (rw [if_neg (i_nlt.mpr c_29), if_pos (i_nle.mp c_50)] at e; exact e)
          | (rw [if_pos (i_nle.mp c_29), if_neg (i_nlt.mpr c_50)] at e; exact e)
          | (rw [if_pos (i_nle.mp c_29), if_pos (i_nle.mp c_50)] at e; exact e)
theorem sp_X5_forEachCoin {g : GG} {h : Hp} {Post : Option Value → Hp → Prop} (hv : Inv h) {n : Nat} {r : Nat → Int32} (R : RM 50 h n r) (G : RG r n) (K : ∀ h', TM h h' → Post (some (.int (w_each r n))) h') : Sp g mX5_forEachCoin [.ref 49] h Post := by
  show Go g mX5_forEachCoin 0 [_, _, _, _] [] _ _ _
  refine ok_aload_n dX5_forEachCoin_0 rfl rfl ?_
  refine ok_iconst (v := -1) dX5_forEachCoin_1 (by decide) ?_
  refine ok_iconst (v := 0) dX5_forEachCoin_2 (by decide) ?_
  refine ok_callV (M' := mX5_throwAll) (b' := (0, 0)) (As := [_, _]) (cx := 5) dX5_forEachCoin_3 iX5_throwAll w_943 (by decide) rfl (by first | exact is_lit hv (by decide) rfl | exact is_sq hv hq | exact is_row hv hq | exact is_pn hv hq (by assumption) | assumption) rfl (Nat.le_of_ble_eq_true rfl) ⟨Nat.le_of_ble_eq_true rfl, Nat.le_of_ble_eq_true rfl⟩ (Nat.le_of_ble_eq_true rfl) rfl rfl ?_
  refine sp_X5_throwAll hv R G (-1) (0) (fun h1 M1 w1 t1 => ?_)
  have hv := M1.1.inv hv
  have R := M1.rm R
  refine ok_iconst (v := 0) dX5_forEachCoin_6 (by decide) ?_
  refine ok_istore_n (lo' := [_, _, _, _]) dX5_forEachCoin_7 rfl (Nat.le_of_ble_eq_true rfl) rfl rfl ?_
  refine ok_iconst (v := 0) dX5_forEachCoin_8 (by decide) ?_
  refine ok_istore_n (lo' := [_, _, _, _]) dX5_forEachCoin_9 rfl (Nat.le_of_ble_eq_true rfl) rfl rfl ?_
  refine ok_iconst (v := 0) dX5_forEachCoin_10 (by decide) ?_
  refine ok_istore_n (lo' := [_, _, _, _]) dX5_forEachCoin_11 rfl (Nat.le_of_ble_eq_true rfl) rfl rfl ?_
  exact lp_X5_forEachCoin_12 hv R ⟨w1, t1⟩ (K h1 M1) n 0 (by omega)
theorem lp_X5_fair_14 {g : GG} {h0 : Hp} {Post : Option Value → Hp → Prop} (hv0 : Inv h0) {n : Nat} {r : Nat → Int32} (G : RG r n) (K : ∀ h', QM h0 h' → RM 50 h' n r → Post (some (.int (nI (a0 (-1) (fun l => w_each (w_set r 2 (nI l)) n) 3).1))) h') : ∀ (k i : Nat) (h : Hp) (x : Int32) (x5 : Option Value), i + k = 3 → QM h0 h → RM 50 h n (w_set r 2 x) → Go g mX5_fair 14 [some (.ref 49), some (.int (r 2)), some (.int (nI (a0 (-1) (fun l => w_each (w_set r 2 (nI l)) n) i).1)), some (.int (a0 (-1) (fun l => w_each (w_set r 2 (nI l)) n) i).2), some (.int (nI i)), x5] [] h (0, 0) Post := by
  intro k
  induction k with
  | zero =>
    intro i h x x5 hik M R
    obtain rfl : i = 3 := by omega
    have hv := M.inv hv0
    have R2 := R.u (k := 2) (v := r 2) (by decide)
    rw [set_set, set_self] at R2
    refine ok_iload dX5_fair_14 rfl ?_
    refine ok_iconst (v := 3) dX5_fair_16 (by decide) ?_
    refine ok_icmp_ge (tgt := 66) dX5_fair_17 (by decide) (fun _ => ?_) (fun c9 => absurd (by decide) c9)
    refine ok_aload_n dX5_fair_66 rfl rfl ?_
    refine ok_getR dX5_fair_67 f_X5_7 (by first | exact is_lit hv (by decide) rfl | exact is_sq hv hq | exact is_row hv hq | exact is_pn hv hq (by assumption) | assumption) rfl (by first | exact rf hv rfl | exact rf_row hv hq | assumption) ?_
    refine ok_iconst (v := 2) dX5_fair_70 (by decide) ?_
    refine ok_iload_n dX5_fair_71 rfl rfl ?_
    refine ok_iastore dX5_fair_72 (is_lit hv (by decide) rfl) (by unfold vp_in; decide) ?_
    refine ok_iload_n dX5_fair_73 rfl rfl ?_
    refine ok_ireturn dX5_fair_74 rfl rfl ?_
    exact K _ (M.u (by omega)) R2
  | succ k ih =>
    intro i h x x5 hik M R
    have hi : i < 3 := by omega
    have hv := M.inv hv0
    have R2 := R.u (k := 2) (v := nI i) (by decide)
    rw [set_set] at R2
    have M2 := M.u (a := 50) (k := 2) (v := nI i) (by omega)
    have G2 := G.sca (k := 2) (v := nI i) (by decide) (by decide) (fun _ => lw_nI hi) (fun z => absurd z (by decide))
    have e := fun h1 M1 R1 => ih (i + 1) h1 (nI i) (some (.int (w_each (w_set r 2 (nI i)) n))) (by omega) M1 R1
    rw [a0] at e
    by_cases cc : w_each (w_set r 2 (nI i)) n ≤ (a0 (-1) (fun l => w_each (w_set r 2 (nI l)) n) i).2
    · rw [if_pos cc] at e
      refine ok_iload dX5_fair_14 rfl ?_
      refine ok_iconst (v := 3) dX5_fair_16 (by decide) ?_
      refine ok_icmp_ge (tgt := 66) dX5_fair_17 (by decide) (fun c9 => absurd c9 (nI_ge hi (by decide))) (fun _ => ?_)
      refine ok_aload_n dX5_fair_20 rfl rfl ?_
      refine ok_getR dX5_fair_21 f_X5_7 (by first | exact is_lit hv (by decide) rfl | exact is_sq hv hq | exact is_row hv hq | exact is_pn hv hq (by assumption) | assumption) rfl (by first | exact rf hv rfl | exact rf_row hv hq | assumption) ?_
      refine ok_iconst (v := 2) dX5_fair_24 (by decide) ?_
      refine ok_iload dX5_fair_25 rfl ?_
      refine ok_iastore dX5_fair_27 (is_lit hv (by decide) rfl) (by unfold vp_in; decide) ?_
      refine ok_aload_n dX5_fair_28 rfl rfl ?_
      refine ok_callV (M' := mX5_forEachCoin) (b' := (0, 0)) (As := []) (cx := 5) dX5_fair_29 iX5_forEachCoin w_1054 (by decide) rfl (by first | exact is_lit hv (by decide) rfl | exact is_sq hv hq | exact is_row hv hq | exact is_pn hv hq (by assumption) | assumption) rfl (Nat.le_of_ble_eq_true rfl) ⟨Nat.le_of_ble_eq_true rfl, Nat.le_of_ble_eq_true rfl⟩ (Nat.le_of_ble_eq_true rfl) rfl rfl ?_
      refine sp_X5_forEachCoin (M2.inv hv0) R2 G2 (fun h2 M3 => ?_)
      have hv := (M2.tr M3.1).inv hv0
      have R3 := M3.rm R2
      refine ok_istore (lo' := [_, _, _, _, _, _]) dX5_fair_32 (Nat.le_of_ble_eq_true rfl) rfl rfl ?_
      refine ok_iload dX5_fair_34 rfl ?_
      refine ok_iload_n dX5_fair_36 rfl rfl ?_
      refine ok_icmp_le (tgt := 45) dX5_fair_37 (by decide) (fun _ => ?_) (fun c9 => absurd cc c9)
      refine ok_iload_n dX5_fair_45 rfl rfl ?_
      refine ok_istore_n (lo' := [_, _, _, _, _, _]) dX5_fair_46 rfl (Nat.le_of_ble_eq_true rfl) rfl rfl ?_
      refine ok_iload dX5_fair_47 rfl ?_
      refine ok_iload_n dX5_fair_49 rfl rfl ?_
      refine ok_icmp_le (tgt := 58) dX5_fair_50 (by decide) (fun _ => ?_) (fun c9 => absurd cc c9)
      refine ok_iload_n dX5_fair_58 rfl rfl ?_
      refine ok_istore_n (lo' := [_, _, _, _, _, _]) dX5_fair_59 rfl (Nat.le_of_ble_eq_true rfl) rfl rfl ?_
      refine ok_iinc (v := _ + 1) (lo' := [_, _, _, _, _, _]) dX5_fair_60 rfl rfl (Nat.le_of_ble_eq_true rfl) rfl rfl ?_
      refine ok_goto (tgt := 14) dX5_fair_63 (by decide) ?_
      rw [nI_1]
      exact e h2 (M2.tr M3.1) R3
    · rw [if_neg cc] at e
      refine ok_iload dX5_fair_14 rfl ?_
      refine ok_iconst (v := 3) dX5_fair_16 (by decide) ?_
      refine ok_icmp_ge (tgt := 66) dX5_fair_17 (by decide) (fun c9 => absurd c9 (nI_ge hi (by decide))) (fun _ => ?_)
      refine ok_aload_n dX5_fair_20 rfl rfl ?_
      refine ok_getR dX5_fair_21 f_X5_7 (by first | exact is_lit hv (by decide) rfl | exact is_sq hv hq | exact is_row hv hq | exact is_pn hv hq (by assumption) | assumption) rfl (by first | exact rf hv rfl | exact rf_row hv hq | assumption) ?_
      refine ok_iconst (v := 2) dX5_fair_24 (by decide) ?_
      refine ok_iload dX5_fair_25 rfl ?_
      refine ok_iastore dX5_fair_27 (is_lit hv (by decide) rfl) (by unfold vp_in; decide) ?_
      refine ok_aload_n dX5_fair_28 rfl rfl ?_
      refine ok_callV (M' := mX5_forEachCoin) (b' := (0, 0)) (As := []) (cx := 5) dX5_fair_29 iX5_forEachCoin w_1054 (by decide) rfl (by first | exact is_lit hv (by decide) rfl | exact is_sq hv hq | exact is_row hv hq | exact is_pn hv hq (by assumption) | assumption) rfl (Nat.le_of_ble_eq_true rfl) ⟨Nat.le_of_ble_eq_true rfl, Nat.le_of_ble_eq_true rfl⟩ (Nat.le_of_ble_eq_true rfl) rfl rfl ?_
      refine sp_X5_forEachCoin (M2.inv hv0) R2 G2 (fun h2 M3 => ?_)
      have hv := (M2.tr M3.1).inv hv0
      have R3 := M3.rm R2
      refine ok_istore (lo' := [_, _, _, _, _, _]) dX5_fair_32 (Nat.le_of_ble_eq_true rfl) rfl rfl ?_
      refine ok_iload dX5_fair_34 rfl ?_
      refine ok_iload_n dX5_fair_36 rfl rfl ?_
      refine ok_icmp_le (tgt := 45) dX5_fair_37 (by decide) (fun c9 => absurd c9 cc) (fun _ => ?_)
      refine ok_iload dX5_fair_40 rfl ?_
      refine ok_goto (tgt := 46) dX5_fair_42 (by decide) ?_
      refine ok_istore_n (lo' := [_, _, _, _, _, _]) dX5_fair_46 rfl (Nat.le_of_ble_eq_true rfl) rfl rfl ?_
      refine ok_iload dX5_fair_47 rfl ?_
      refine ok_iload_n dX5_fair_49 rfl rfl ?_
      refine ok_icmp_le (tgt := 58) dX5_fair_50 (by decide) (fun c9 => absurd c9 cc) (fun _ => ?_)
      refine ok_iload dX5_fair_53 rfl ?_
      refine ok_goto (tgt := 59) dX5_fair_55 (by decide) ?_
      refine ok_istore_n (lo' := [_, _, _, _, _, _]) dX5_fair_59 rfl (Nat.le_of_ble_eq_true rfl) rfl rfl ?_
      refine ok_iinc (v := _ + 1) (lo' := [_, _, _, _, _, _]) dX5_fair_60 rfl rfl (Nat.le_of_ble_eq_true rfl) rfl rfl ?_
      refine ok_goto (tgt := 14) dX5_fair_63 (by decide) ?_
      rw [nI_1]
      exact e h2 (M2.tr M3.1) R3
theorem sp_X5_fair {g : GG} {h : Hp} {Post : Option Value → Hp → Prop} (hv : Inv h) {n : Nat} {r : Nat → Int32} (R : RM 50 h n r) (G : RG r n) (K : ∀ h', QM h h' → RM 50 h' n r → Post (some (.int (nI (am (fun l => w_each (w_set r 2 (nI l)) n) 2).1))) h') : Sp g mX5_fair [.ref 49] h Post := by
  show Go g mX5_fair 0 [_, _, _, _, _, _] [] _ _ _
  have G2 := G.sca (k := 2) (v := nI 0) (by decide) (by decide) (fun _ => lw_nI (by decide)) (fun z => absurd z (by decide))
  rw [← a0_am (c := -1) (f := (fun l => w_each (w_set r 2 (nI l)) n)) (each_lo G2) 2] at K
  have RS : RM 50 h n (w_set r 2 (r 2)) := by rw [set_self]; exact R
  refine ok_aload_n dX5_fair_0 rfl rfl ?_
  refine ok_getR dX5_fair_1 f_X5_7 (by first | exact is_lit hv (by decide) rfl | exact is_sq hv hq | exact is_row hv hq | exact is_pn hv hq (by assumption) | assumption) rfl (by first | exact rf hv rfl | exact rf_row hv hq | assumption) ?_
  refine ok_iconst (v := 2) dX5_fair_4 (by decide) ?_
  refine ok_iaload dX5_fair_5 (is_lit hv (by decide) rfl) (by unfold vp_in; decide) ?_
  rw [show hI h 50 (Int32.toNatClampNeg 2) = r 2 from R.2.2.1 2 (by decide)]
  refine ok_istore_n (lo' := [_, _, _, _, _, _]) dX5_fair_6 rfl (Nat.le_of_ble_eq_true rfl) rfl rfl ?_
  refine ok_iconst (v := 0) dX5_fair_7 (by decide) ?_
  refine ok_istore_n (lo' := [_, _, _, _, _, _]) dX5_fair_8 rfl (Nat.le_of_ble_eq_true rfl) rfl rfl ?_
  refine ok_iconst (v := -1) dX5_fair_9 (by decide) ?_
  refine ok_istore_n (lo' := [_, _, _, _, _, _]) dX5_fair_10 rfl (Nat.le_of_ble_eq_true rfl) rfl rfl ?_
  refine ok_iconst (v := 0) dX5_fair_11 (by decide) ?_
  refine ok_istore (lo' := [_, _, _, _, _, _]) dX5_fair_12 (Nat.le_of_ble_eq_true rfl) rfl rfl ?_
  exact lp_X5_fair_14 hv G K 3 0 h _ _ (by omega) QM.rf RS
