/-! ===== the class: hours, queries ===== -/
theorem fb_bmod {z : Int} (h1 : -2147483648 ≤ z) (h2 : z < 2147483648) : z.bmod (2 ^ 32) = z := by
  rw [Int.bmod_eq_of_le (by omega) (by omega)]
theorem fb_addI {x y : Int32} (h1 : -2147483648 ≤ x.toInt + y.toInt) (h2 : x.toInt + y.toInt < 2147483648) : (x + y).toInt = x.toInt + y.toInt := by
  rw [Int32.toInt_add, fb_bmod h1 h2]
theorem fb_subI {x y : Int32} (h1 : -2147483648 ≤ x.toInt - y.toInt) (h2 : x.toInt - y.toInt < 2147483648) : (x - y).toInt = x.toInt - y.toInt := by
  rw [Int32.toInt_sub, fb_bmod h1 h2]
theorem short_pos (r : Nat → Int32) (p : Nat) (pl c : Int32) : 0 ≤ (w_short r p pl c).toInt := by
  unfold w_short
  split
  · decide
  · rename_i h
    have := i_nle.mp h
    rw [i_lt] at this
    have e : (0 : Int32).toInt = 0 := rfl
    omega
theorem raw_lo (r : Nat → Int32) (p : Nat) (c : Int32) : -1 ≤ (w_raw r p c).toInt := by
  have h1 := short_pos r p (nI p) c
  have h2 := short_pos r p (r 0 - 1) c
  have e0 : (0 : Int32).toInt = 0 := rfl
  have e1 : (1 : Int32).toInt = 1 := rfl
  have e2 : (-1 : Int32).toInt = -1 := rfl
  unfold w_raw
  split
  · omega
  · split
    · omega
    · split
      · split <;> omega
      · split
        · split <;> omega
        · split
          · omega
          · split
            · split <;> omega
            · omega
/-- what one throws lies between -1 and the purse -/
theorem would_in {r : Nat → Int32} {p u : Nat} (hu : u ≤ 999) (e : ro r p 1 = nI u) (c : Int32) : -1 ≤ (w_would r p c).toInt ∧ (w_would r p c).toInt ≤ u := by
  have h1 := raw_lo r p c
  have h2 : (nI u).toInt = u := nI_toInt (by omega)
  unfold w_would cut
  rw [e]
  split
  · rename_i h
    rw [i_lt] at h
    omega
  · omega
theorem th_val {r : Nat → Int32} {n p : Nat} {who c : Int32} : ∀ {i : Nat}, w_vis r n i p = true → ∃ cc, w_th r n who c i p = if nI p = who then c else w_would r p cc
  | 0, h => by cases h
  | i + 1, h => by
    by_cases e : p = w_ord r n i
    · subst e
      exact ⟨w_cs r n who c i, if_pos rfl⟩
    · have hb : (p == w_ord r n i) = false := by simpa using e
      simp only [w_vis, hb, Bool.false_or] at h
      obtain ⟨cc, h2⟩ := th_val (who := who) (c := c) h
      exact ⟨cc, (if_neg e).trans h2⟩
theorem thr_in {r : Nat → Int32} {n p u : Nat} (hn : n ≤ 10) (hp : p < n) (hu : u ≤ 999) (e : ro r p 1 = nI u) : -1 ≤ (w_thr r n (-1) 0 p).toInt ∧ (w_thr r n (-1) 0 p).toInt ≤ u := by
  obtain ⟨cc, h⟩ := th_val (who := -1) (c := 0) (vis_all (r := r) hp)
  rw [w_thr, h, if_neg (fun z => by have := congrArg Int32.toInt z; rw [nI_toInt (by omega)] at this; have e2 : (-1 : Int32).toInt = -1 := rfl; omega)]
  exact would_in hu e cc
theorem RG.hour {r : Nat → Int32} {n : Nat} (G : RG r n) : RG (w_hour r n (-1) 0) n := by
  obtain ⟨a, b, c, d, e⟩ := G
  refine ⟨a, ?_, ?_, ?_, fun p hp => ?_⟩
  · rw [w_hour, mk_s (by decide)]; exact b
  · rw [w_hour, mk_s (by decide)]; exact c
  · rw [w_hour, mk_s (by decide)]; exact d
  · obtain ⟨e1, ⟨u, hu, e2⟩, e3⟩ := e p hp
    rw [w_hour, ro_mk (by decide), ro_mk (by decide), ro_mk (by decide)]
    refine ⟨e1, ?_, e3⟩
    show ∃ u, u ≤ 999 ∧ cut (ro r p 1 - w_thr r n (-1) 0 p) 999 = nI u
    obtain ⟨t1, t2⟩ := thr_in a hp hu e2
    have h2 : (nI u).toInt = u := nI_toInt (by omega)
    have h3 : (ro r p 1 - w_thr r n (-1) 0 p).toInt = u - (w_thr r n (-1) 0 p).toInt := by rw [fb_subI (by rw [e2]; omega) (by rw [e2]; omega), e2, h2]
    have h4 : (999 : Int32).toInt = 999 := rfl
    unfold cut
    split
    · rename_i hc
      rw [i_lt] at hc
      refine ⟨((ro r p 1 - w_thr r n (-1) 0 p).toInt).toNat, by omega, ?_⟩
      rw [i_eq, nI_toInt (by omega)]
      omega
    · exact ⟨999, by omega, rfl⟩
def w_hrs (r : Nat → Int32) (n : Nat) : Nat → Nat → Int32
  | 0 => r
  | i + 1 => w_hour (w_hrs r n i) n (-1) 0
def w_fls (r : Nat → Int32) (n : Nat) : Nat → Int32
  | 0 => 0
  | i + 1 => w_fls r n i + w_fill (w_will (w_hrs r n i) n (-1) 0) n
theorem RG.hrs {r : Nat → Int32} {n : Nat} (G : RG r n) : ∀ i, RG (w_hrs r n i) n
  | 0 => G
  | i + 1 => (RG.hrs G i).hour
theorem sp_X4_hours_b {g : GG} {h : Hp} {Post : Option Value → Hp → Prop} {n : Nat} {r : Nat → Int32} (S : Hs h n r) (v : Int32) (hb : v < 1 ∨ 200 < v) (K : Post (some (.int (-1000000001))) (hfi h 0)) : Sp g mX4_hours [.ref 0, .int v] h Post := by
  show Go g mX4_hours 0 [_, _, _, _] [] _ _ _
  have hv := S.1
  have hn := S.2.2.1
  have h6 := S.2.1.2.2.1
  have hq := s2
  refine ok_iload_n dX4_hours_0 rfl rfl ?_
  refine ok_iconst (v := 1) dX4_hours_1 (by decide) ?_
  refine ok_sipush (v := 200) dX4_hours_2 (by decide) ?_
  refine ok_callS (M' := mX4_isWithin) (b' := (0, 0)) (As := [_, _, _]) dX4_hours_5 iX4_isWithin w_302 rfl (Nat.le_of_ble_eq_true rfl) ⟨Nat.le_of_ble_eq_true rfl, Nat.le_of_ble_eq_true rfl⟩ (Nat.le_of_ble_eq_true rfl) rfl rfl ?_
  refine sp_X4_isWithin _ _ _ ?_
  rw [wi_bad hb]
  refine ok_if_ne (tgt := 18) dX4_hours_8 (by decide) (fun c9 => absurd c9 (fun c => c rfl)) (fun _ => ?_)
  refine ok_aload_n dX4_hours_11 rfl rfl ?_
  refine ok_ldc dX4_hours_12 w_253 ?_
  refine ok_callV (M' := mX4_finding) (b' := (0, 0)) (As := [_]) (cx := 4) dX4_hours_14 iX4_finding w_254 (by decide) rfl (by first | exact is_lit hv (by decide) rfl | exact is_sq hv hq | exact is_row hv hq | exact is_pn hv hq (by assumption) | assumption) rfl (Nat.le_of_ble_eq_true rfl) ⟨Nat.le_of_ble_eq_true rfl, Nat.le_of_ble_eq_true rfl⟩ (Nat.le_of_ble_eq_true rfl) rfl rfl ?_
  refine sp_X4_finding hv (k := 0) (by decide) (by decide) ?_
  refine ok_ireturn dX4_hours_17 rfl rfl ?_
  first | exact K | (simp only [↓reduceIte] at K; exact K)
theorem sp_X4_hours_s {g : GG} {h : Hp} {Post : Option Value → Hp → Prop} {n : Nat} {r : Nat → Int32} (S : Hs h n r) (v : Int32) (h1 : ¬ v < 1) (h2 : ¬ 200 < v) (hs : ¬ (r 5 + v ≤ 9999)) (K : Post (some (.int (-1000000005))) (hfi h 4)) : Sp g mX4_hours [.ref 0, .int v] h Post := by
  show Go g mX4_hours 0 [_, _, _, _] [] _ _ _
  have hv := S.1
  have hn := S.2.2.1
  have h6 := S.2.1.2.2.1
  have hq := s2
  refine ok_iload_n dX4_hours_0 rfl rfl ?_
  refine ok_iconst (v := 1) dX4_hours_1 (by decide) ?_
  refine ok_sipush (v := 200) dX4_hours_2 (by decide) ?_
  refine ok_callS (M' := mX4_isWithin) (b' := (0, 0)) (As := [_, _, _]) dX4_hours_5 iX4_isWithin w_302 rfl (Nat.le_of_ble_eq_true rfl) ⟨Nat.le_of_ble_eq_true rfl, Nat.le_of_ble_eq_true rfl⟩ (Nat.le_of_ble_eq_true rfl) rfl rfl ?_
  refine sp_X4_isWithin _ _ _ ?_
  rw [wi_ok h1 h2]
  refine ok_if_ne (tgt := 18) dX4_hours_8 (by decide) (fun _ => ?_) (fun c9 => absurd c9 (by decide))
  refine ok_aload_n dX4_hours_18 rfl rfl ?_
  refine ok_getR dX4_hours_19 f_X4_16 (by first | exact is_lit hv (by decide) rfl | exact is_sq hv hq | exact is_row hv hq | exact is_pn hv hq (by assumption) | assumption) rfl (by first | exact rf hv rfl | exact rf_row hv hq | assumption) ?_
  refine ok_getI dX4_hours_22 f_X4_143 (by first | exact is_lit hv (by decide) rfl | exact is_sq hv hq | exact is_row hv hq | exact is_pn hv hq (by assumption) | assumption) rfl ?_
  refine ok_iload_n dX4_hours_25 rfl rfl ?_
  refine ok_iadd dX4_hours_26 ?_
  refine ok_sipush (v := 9999) dX4_hours_27 (by decide) ?_
  rw [S.2.1.2.2.2.1 4 (by decide)]
  refine ok_icmp_le (tgt := 40) dX4_hours_30 (by decide) (fun c9 => absurd c9 hs) (fun _ => ?_)
  refine ok_aload_n dX4_hours_33 rfl rfl ?_
  refine ok_ldc dX4_hours_34 w_362 ?_
  refine ok_callV (M' := mX4_finding) (b' := (0, 0)) (As := [_]) (cx := 4) dX4_hours_36 iX4_finding w_254 (by decide) rfl (by first | exact is_lit hv (by decide) rfl | exact is_sq hv hq | exact is_row hv hq | exact is_pn hv hq (by assumption) | assumption) rfl (Nat.le_of_ble_eq_true rfl) ⟨Nat.le_of_ble_eq_true rfl, Nat.le_of_ble_eq_true rfl⟩ (Nat.le_of_ble_eq_true rfl) rfl rfl ?_
  refine sp_X4_finding hv (k := 4) (by decide) (by decide) ?_
  refine ok_ireturn dX4_hours_39 rfl rfl ?_
  first | exact K | (simp only [↓reduceIte] at K; exact K)
theorem lp_X4_hours_44 {g : GG} {h0 : Hp} {Post : Option Value → Hp → Prop} {n : Nat} {r : Nat → Int32} (S0 : Hs h0 n r) {m : Nat} (hm : m ≤ 200) (K : ∀ h', FrI 2 h0 h' → Rep h' 2 n (w_hrs r n m) → Post (some (.int (w_fls r n m))) h') : ∀ (k i : Nat) (h : Hp), i + k = m → FrI 2 h0 h → Rep h 2 n (w_hrs r n i) → Go g mX4_hours 44 [some (.ref 0), some (.int (nI m)), some (.int (w_fls r n i)), some (.int (nI i))] [] h (0, 0) Post := by
  intro k
  induction k with
  | zero =>
    intro i h hik F R
    obtain rfl : i = m := by omega
    have hv : Inv h := S0.1.of F.1
    refine ok_iload_n dX4_hours_44 rfl rfl ?_
    refine ok_iload_n dX4_hours_45 rfl rfl ?_
    refine ok_icmp_ge (tgt := 67) dX4_hours_46 (by decide) (fun _ => ?_) (fun c9 => absurd (nI_le (Nat.le_refl _) (by omega)) c9)
    refine ok_iload_n dX4_hours_67 rfl rfl ?_
    refine ok_ireturn dX4_hours_68 rfl rfl ?_
    exact K h F R
  | succ k ih =>
    intro i h hik F R
    have hi : i < m := by omega
    have hv : Inv h := S0.1.of F.1
    have G := S0.2.2.hrs i
    refine ok_iload_n dX4_hours_44 rfl rfl ?_
    refine ok_iload_n dX4_hours_45 rfl rfl ?_
    refine ok_icmp_ge (tgt := 67) dX4_hours_46 (by decide) (fun c9 => absurd c9 (nI_ge hi (by omega))) (fun _ => ?_)
    refine ok_iload_n dX4_hours_49 rfl rfl ?_
    refine ok_aload_n dX4_hours_50 rfl rfl ?_
    refine ok_getR dX4_hours_51 f_X4_16 (by first | exact is_lit hv (by decide) rfl | exact is_sq hv hq | exact is_row hv hq | exact is_pn hv hq (by assumption) | assumption) rfl (by first | exact rf hv rfl | exact rf_row hv hq | assumption) ?_
    refine ok_iconst (v := -1) dX4_hours_54 (by decide) ?_
    refine ok_iconst (v := 0) dX4_hours_55 (by decide) ?_
    refine ok_callV (M' := mX2_passHour) (b' := (0, 0)) (As := [_, _]) (cx := 2) dX4_hours_56 iX2_passHour w_363 (by decide) rfl (by first | exact is_lit hv (by decide) rfl | exact is_sq hv hq | exact is_row hv hq | exact is_pn hv hq (by assumption) | assumption) rfl (Nat.le_of_ble_eq_true rfl) ⟨Nat.le_of_ble_eq_true rfl, Nat.le_of_ble_eq_true rfl⟩ (Nat.le_of_ble_eq_true rfl) rfl rfl ?_
    refine sp_X2_passHour hv s2 R G.kd G.2.2.1 _ _ (fun h2 F2 R2 => ?_)
    refine ok_iadd dX4_hours_59 ?_
    refine ok_istore_n (lo' := [_, _, _, _]) dX4_hours_60 rfl (Nat.le_of_ble_eq_true rfl) rfl rfl ?_
    refine ok_iinc (v := _ + 1) (lo' := [_, _, _, _]) dX4_hours_61 rfl rfl (Nat.le_of_ble_eq_true rfl) rfl rfl ?_
    refine ok_goto (tgt := 44) dX4_hours_64 (by decide) ?_
    rw [nI_1]
    exact ih (i + 1) h2 (by omega) (F.tr F2) R2
theorem sp_X4_hours {g : GG} {h : Hp} {Post : Option Value → Hp → Prop} {n : Nat} {r : Nat → Int32} (S : Hs h n r) {m : Nat} (hm1 : 1 ≤ m) (hm : m ≤ 200) (hs : r 5 + nI m ≤ 9999) (K : ∀ h', FrI 2 h h' → Rep h' 2 n (w_hrs r n m) → Post (some (.int (w_fls r n m))) h') : Sp g mX4_hours [.ref 0, .int (nI m)] h Post := by
  show Go g mX4_hours 0 [_, _, _, _] [] _ _ _
  have hv := S.1
  have hn := S.2.2.1
  have h6 := S.2.1.2.2.1
  have hq := s2
  refine ok_iload_n dX4_hours_0 rfl rfl ?_
  refine ok_iconst (v := 1) dX4_hours_1 (by decide) ?_
  refine ok_sipush (v := 200) dX4_hours_2 (by decide) ?_
  refine ok_callS (M' := mX4_isWithin) (b' := (0, 0)) (As := [_, _, _]) dX4_hours_5 iX4_isWithin w_302 rfl (Nat.le_of_ble_eq_true rfl) ⟨Nat.le_of_ble_eq_true rfl, Nat.le_of_ble_eq_true rfl⟩ (Nat.le_of_ble_eq_true rfl) rfl rfl ?_
  refine sp_X4_isWithin _ _ _ ?_
  rw [wi_ok (v := nI m) (l := 1) (u := 200) (nI_nlt (a := m) (b := 1) hm1 (by omega)) (nI_nlt (a := 200) (b := m) hm (by omega))]
  refine ok_if_ne (tgt := 18) dX4_hours_8 (by decide) (fun _ => ?_) (fun c9 => absurd c9 (by decide))
  refine ok_aload_n dX4_hours_18 rfl rfl ?_
  refine ok_getR dX4_hours_19 f_X4_16 (by first | exact is_lit hv (by decide) rfl | exact is_sq hv hq | exact is_row hv hq | exact is_pn hv hq (by assumption) | assumption) rfl (by first | exact rf hv rfl | exact rf_row hv hq | assumption) ?_
  refine ok_getI dX4_hours_22 f_X4_143 (by first | exact is_lit hv (by decide) rfl | exact is_sq hv hq | exact is_row hv hq | exact is_pn hv hq (by assumption) | assumption) rfl ?_
  refine ok_iload_n dX4_hours_25 rfl rfl ?_
  refine ok_iadd dX4_hours_26 ?_
  refine ok_sipush (v := 9999) dX4_hours_27 (by decide) ?_
  rw [S.2.1.2.2.2.1 4 (by decide)]
  refine ok_icmp_le (tgt := 40) dX4_hours_30 (by decide) (fun _ => ?_) (fun c9 => absurd hs c9)
  refine ok_iconst (v := 0) dX4_hours_40 (by decide) ?_
  refine ok_istore_n (lo' := [_, _, _, _]) dX4_hours_41 rfl (Nat.le_of_ble_eq_true rfl) rfl rfl ?_
  refine ok_iconst (v := 0) dX4_hours_42 (by decide) ?_
  refine ok_istore_n (lo' := [_, _, _, _]) dX4_hours_43 rfl (Nat.le_of_ble_eq_true rfl) rfl rfl ?_
  exact lp_X4_hours_44 S hm K m 0 h (by omega) FrI.rf S.2.1
theorem sp_X4_runs {g : GG} {h : Hp} {Post : Option Value → Hp → Prop} {n : Nat} {r : Nat → Int32} (S : Hs h n r) (K : ∀ h', Fr 14 h h' → Inv h' → Post (some (.int (w_will r n (-1) 0))) h') : Sp g mX4_runs [.ref 0] h Post := by
  show Go g mX4_runs 0 [_] [] _ _ _
  have hv := S.1
  refine ok_aload_n dX4_runs_0 rfl rfl ?_
  refine ok_callV (M' := mX4_tryNextHour) (b' := (0, 0)) (As := []) (cx := 4) dX4_runs_1 iX4_tryNextHour w_401 (by decide) rfl (by first | exact is_lit hv (by decide) rfl | exact is_sq hv hq | exact is_row hv hq | exact is_pn hv hq (by assumption) | assumption) rfl (Nat.le_of_ble_eq_true rfl) ⟨Nat.le_of_ble_eq_true rfl, Nat.le_of_ble_eq_true rfl⟩ (Nat.le_of_ble_eq_true rfl) rfl rfl ?_
  refine sp_X4_tryNextHour S (fun h1 F1 R1 => ?_)
  have hv1 : Inv h1 := S.1.of F1.1
  have hv := hv1
  refine ok_aload_n dX4_runs_4 rfl rfl ?_
  refine ok_getR dX4_runs_5 f_X4_20 (by first | exact is_lit hv (by decide) rfl | exact is_sq hv hq | exact is_row hv hq | exact is_pn hv hq (by assumption) | assumption) rfl (by first | exact rf hv rfl | exact rf_row hv hq | assumption) ?_
  refine ok_getI dX4_runs_8 f_X4_153 (by first | exact is_lit hv (by decide) rfl | exact is_sq hv hq | exact is_row hv hq | exact is_pn hv hq (by assumption) | assumption) rfl ?_
  refine ok_ireturn dX4_runs_11 rfl rfl ?_
  rw [R1.2.2.2.1 5 (by decide)]
  have K2 := K h1 F1.fr hv1
  exact K2
theorem sp_X4_thrown_b {g : GG} {h : Hp} {Post : Option Value → Hp → Prop} {n : Nat} {r : Nat → Int32} (S : Hs h n r) (p : Int32) (hb : p < 0 ∨ nI n ≤ p) (K : Post (some (.int (-1000000001))) (hfi h 0)) : Sp g mX4_thrown [.ref 0, .int p] h Post := by
  show Go g mX4_thrown 0 [_, _] [] _ _ _
  have hv := S.1
  have hn := S.2.2.1
  have h6 := S.2.1.2.2.1
  have hq := s2
  refine ok_aload_n dX4_thrown_0 rfl rfl ?_
  refine ok_getR dX4_thrown_1 f_X4_16 (by first | exact is_lit hv (by decide) rfl | exact is_sq hv hq | exact is_row hv hq | exact is_pn hv hq (by assumption) | assumption) rfl (by first | exact rf hv rfl | exact rf_row hv hq | assumption) ?_
  refine ok_iload_n dX4_thrown_4 rfl rfl ?_
  refine ok_callV (M' := mX2_stands) (b' := (0, 0)) (As := [_]) (cx := 2) dX4_thrown_5 iX2_stands w_271 (by decide) rfl (by first | exact is_lit hv (by decide) rfl | exact is_sq hv hq | exact is_row hv hq | exact is_pn hv hq (by assumption) | assumption) rfl (Nat.le_of_ble_eq_true rfl) ⟨Nat.le_of_ble_eq_true rfl, Nat.le_of_ble_eq_true rfl⟩ (Nat.le_of_ble_eq_true rfl) rfl rfl ?_
  refine sp_X2_stands hv s2 _ ?_
  rw [h6, st_bad hb]
  refine ok_if_ne (tgt := 18) dX4_thrown_8 (by decide) (fun c9 => absurd c9 (fun c => c rfl)) (fun _ => ?_)
  refine ok_aload_n dX4_thrown_11 rfl rfl ?_
  refine ok_ldc dX4_thrown_12 w_253 ?_
  refine ok_callV (M' := mX4_finding) (b' := (0, 0)) (As := [_]) (cx := 4) dX4_thrown_14 iX4_finding w_254 (by decide) rfl (by first | exact is_lit hv (by decide) rfl | exact is_sq hv hq | exact is_row hv hq | exact is_pn hv hq (by assumption) | assumption) rfl (Nat.le_of_ble_eq_true rfl) ⟨Nat.le_of_ble_eq_true rfl, Nat.le_of_ble_eq_true rfl⟩ (Nat.le_of_ble_eq_true rfl) rfl rfl ?_
  refine sp_X4_finding hv (k := 0) (by decide) (by decide) ?_
  refine ok_ireturn dX4_thrown_17 rfl rfl ?_
  first | exact K | (simp only [↓reduceIte] at K; exact K)
theorem sp_X4_thrown {g : GG} {h : Hp} {Post : Option Value → Hp → Prop} {n : Nat} {r : Nat → Int32} (S : Hs h n r) {j : Nat} (hj : j < n) (K : ∀ h', Fr 14 h h' → Inv h' → Post (some (.int (w_thr r n (-1) 0 j))) h') : Sp g mX4_thrown [.ref 0, .int (nI j)] h Post := by
  show Go g mX4_thrown 0 [_, _] [] _ _ _
  have hv := S.1
  have hn := S.2.2.1
  have h6 := S.2.1.2.2.1
  have hq := s2
  have hj10 : j < 10 := by omega
  refine ok_aload_n dX4_thrown_0 rfl rfl ?_
  refine ok_getR dX4_thrown_1 f_X4_16 (by first | exact is_lit hv (by decide) rfl | exact is_sq hv hq | exact is_row hv hq | exact is_pn hv hq (by assumption) | assumption) rfl (by first | exact rf hv rfl | exact rf_row hv hq | assumption) ?_
  refine ok_iload_n dX4_thrown_4 rfl rfl ?_
  refine ok_callV (M' := mX2_stands) (b' := (0, 0)) (As := [_]) (cx := 2) dX4_thrown_5 iX2_stands w_271 (by decide) rfl (by first | exact is_lit hv (by decide) rfl | exact is_sq hv hq | exact is_row hv hq | exact is_pn hv hq (by assumption) | assumption) rfl (Nat.le_of_ble_eq_true rfl) ⟨Nat.le_of_ble_eq_true rfl, Nat.le_of_ble_eq_true rfl⟩ (Nat.le_of_ble_eq_true rfl) rfl rfl ?_
  refine sp_X2_stands hv s2 _ ?_
  rw [h6, st_ok hn hj]
  refine ok_if_ne (tgt := 18) dX4_thrown_8 (by decide) (fun _ => ?_) (fun c9 => absurd c9 (by decide))
  refine ok_aload_n dX4_thrown_18 rfl rfl ?_
  refine ok_callV (M' := mX4_tryNextHour) (b' := (0, 0)) (As := []) (cx := 4) dX4_thrown_19 iX4_tryNextHour w_401 (by decide) rfl (by first | exact is_lit hv (by decide) rfl | exact is_sq hv hq | exact is_row hv hq | exact is_pn hv hq (by assumption) | assumption) rfl (Nat.le_of_ble_eq_true rfl) ⟨Nat.le_of_ble_eq_true rfl, Nat.le_of_ble_eq_true rfl⟩ (Nat.le_of_ble_eq_true rfl) rfl rfl ?_
  refine sp_X4_tryNextHour S (fun h1 F1 R1 => ?_)
  have hv1 : Inv h1 := S.1.of F1.1
  have hv := hv1
  have hq := s14
  refine ok_aload_n dX4_thrown_22 rfl rfl ?_
  refine ok_getR dX4_thrown_23 f_X4_20 (by first | exact is_lit hv (by decide) rfl | exact is_sq hv hq | exact is_row hv hq | exact is_pn hv hq (by assumption) | assumption) rfl (by first | exact rf hv rfl | exact rf_row hv hq | assumption) ?_
  refine ok_getR dX4_thrown_26 f_X4_64 (is_sq hv hq) rfl (rf_row hv hq) ?_
  refine ok_iload_n dX4_thrown_29 rfl rfl ?_
  refine ok_aaloadP dX4_thrown_30 (by first | exact is_lit hv (by decide) rfl | exact is_sq hv hq | exact is_row hv hq | exact is_pn hv hq (by assumption) | assumption) (by first | (unfold vp_in; decide) | exact vp_in_nI (by assumption) (by decide) | exact vp_in_nI (by omega) (by decide) | assumption) (by first | exact rf_nI hv hq (by assumption) | assumption) ?_
  refine ok_getI dX4_thrown_31 f_X4_82 (by first | exact is_lit hv (by decide) rfl | exact is_sq hv hq | exact is_row hv hq | exact is_pn hv hq (by assumption) | assumption) rfl ?_
  refine ok_ireturn dX4_thrown_34 rfl rfl ?_
  have e : hI h1 (pn h1 14 j) 4 = w_thr r n (-1) 0 j := (R1.2.2.2.2 j 4 hj (by decide)).trans (by rw [w_hour, ro_mk (by decide)]; rfl)
  rw [e]
  exact K h1 F1.fr hv1
theorem sp_X4_gain_b {g : GG} {h : Hp} {Post : Option Value → Hp → Prop} {n : Nat} {r : Nat → Int32} (S : Hs h n r) (p : Int32) (hb : p < 0 ∨ nI n ≤ p) (K : Post (some (.int (-1000000001))) (hfi h 0)) : Sp g mX4_gain [.ref 0, .int p] h Post := by
  show Go g mX4_gain 0 [_, _] [] _ _ _
  have hv := S.1
  have hn := S.2.2.1
  have h6 := S.2.1.2.2.1
  have hq := s2
  refine ok_aload_n dX4_gain_0 rfl rfl ?_
  refine ok_getR dX4_gain_1 f_X4_16 (by first | exact is_lit hv (by decide) rfl | exact is_sq hv hq | exact is_row hv hq | exact is_pn hv hq (by assumption) | assumption) rfl (by first | exact rf hv rfl | exact rf_row hv hq | assumption) ?_
  refine ok_iload_n dX4_gain_4 rfl rfl ?_
  refine ok_callV (M' := mX2_stands) (b' := (0, 0)) (As := [_]) (cx := 2) dX4_gain_5 iX2_stands w_271 (by decide) rfl (by first | exact is_lit hv (by decide) rfl | exact is_sq hv hq | exact is_row hv hq | exact is_pn hv hq (by assumption) | assumption) rfl (Nat.le_of_ble_eq_true rfl) ⟨Nat.le_of_ble_eq_true rfl, Nat.le_of_ble_eq_true rfl⟩ (Nat.le_of_ble_eq_true rfl) rfl rfl ?_
  refine sp_X2_stands hv s2 _ ?_
  rw [h6, st_bad hb]
  refine ok_if_ne (tgt := 18) dX4_gain_8 (by decide) (fun c9 => absurd c9 (fun c => c rfl)) (fun _ => ?_)
  refine ok_aload_n dX4_gain_11 rfl rfl ?_
  refine ok_ldc dX4_gain_12 w_253 ?_
  refine ok_callV (M' := mX4_finding) (b' := (0, 0)) (As := [_]) (cx := 4) dX4_gain_14 iX4_finding w_254 (by decide) rfl (by first | exact is_lit hv (by decide) rfl | exact is_sq hv hq | exact is_row hv hq | exact is_pn hv hq (by assumption) | assumption) rfl (Nat.le_of_ble_eq_true rfl) ⟨Nat.le_of_ble_eq_true rfl, Nat.le_of_ble_eq_true rfl⟩ (Nat.le_of_ble_eq_true rfl) rfl rfl ?_
  refine sp_X4_finding hv (k := 0) (by decide) (by decide) ?_
  refine ok_ireturn dX4_gain_17 rfl rfl ?_
  first | exact K | (simp only [↓reduceIte] at K; exact K)
theorem sp_X4_gain {g : GG} {h : Hp} {Post : Option Value → Hp → Prop} {n : Nat} {r : Nat → Int32} (S : Hs h n r) {j : Nat} (hj : j < n) (K : ∀ h', Fr 14 h h' → Inv h' → Post (some (.int (w_gain r n (-1) 0 j))) h') : Sp g mX4_gain [.ref 0, .int (nI j)] h Post := by
  show Go g mX4_gain 0 [_, _] [] _ _ _
  have hv := S.1
  have hn := S.2.2.1
  have h6 := S.2.1.2.2.1
  have hq := s2
  refine ok_aload_n dX4_gain_0 rfl rfl ?_
  refine ok_getR dX4_gain_1 f_X4_16 (by first | exact is_lit hv (by decide) rfl | exact is_sq hv hq | exact is_row hv hq | exact is_pn hv hq (by assumption) | assumption) rfl (by first | exact rf hv rfl | exact rf_row hv hq | assumption) ?_
  refine ok_iload_n dX4_gain_4 rfl rfl ?_
  refine ok_callV (M' := mX2_stands) (b' := (0, 0)) (As := [_]) (cx := 2) dX4_gain_5 iX2_stands w_271 (by decide) rfl (by first | exact is_lit hv (by decide) rfl | exact is_sq hv hq | exact is_row hv hq | exact is_pn hv hq (by assumption) | assumption) rfl (Nat.le_of_ble_eq_true rfl) ⟨Nat.le_of_ble_eq_true rfl, Nat.le_of_ble_eq_true rfl⟩ (Nat.le_of_ble_eq_true rfl) rfl rfl ?_
  refine sp_X2_stands hv s2 _ ?_
  rw [h6, st_ok hn hj]
  refine ok_if_ne (tgt := 18) dX4_gain_8 (by decide) (fun _ => ?_) (fun c9 => absurd c9 (by decide))
  refine ok_aload_n dX4_gain_18 rfl rfl ?_
  refine ok_iload_n dX4_gain_19 rfl rfl ?_
  refine ok_callV (M' := mX4_gainAsIs) (b' := (0, 0)) (As := [_]) (cx := 4) dX4_gain_20 iX4_gainAsIs w_421 (by decide) rfl (by first | exact is_lit hv (by decide) rfl | exact is_sq hv hq | exact is_row hv hq | exact is_pn hv hq (by assumption) | assumption) rfl (Nat.le_of_ble_eq_true rfl) ⟨Nat.le_of_ble_eq_true rfl, Nat.le_of_ble_eq_true rfl⟩ (Nat.le_of_ble_eq_true rfl) rfl rfl ?_
  refine sp_X4_gainAsIs S hj (fun h1 F1 hv1 => ?_)
  refine ok_ireturn dX4_gain_23 rfl rfl ?_
  exact K h1 F1 hv1
theorem sp_X4_all {g : GG} {h : Hp} {Post : Option Value → Hp → Prop} {n : Nat} {r : Nat → Int32} (S : Hs h n r) (K : ∀ h', Fr 14 h h' → Inv h' → Post (some (.int (w_sum (w_gain r n (-1) 0) n))) h') : Sp g mX4_all [.ref 0] h Post := by
  show Go g mX4_all 0 [_] [] _ _ _
  have hv := S.1
  have hn := S.2.2.1
  refine ok_aload_n dX4_all_0 rfl rfl ?_
  refine ok_callV (M' := mX4_tryNextHour) (b' := (0, 0)) (As := []) (cx := 4) dX4_all_1 iX4_tryNextHour w_401 (by decide) rfl (by first | exact is_lit hv (by decide) rfl | exact is_sq hv hq | exact is_row hv hq | exact is_pn hv hq (by assumption) | assumption) rfl (Nat.le_of_ble_eq_true rfl) ⟨Nat.le_of_ble_eq_true rfl, Nat.le_of_ble_eq_true rfl⟩ (Nat.le_of_ble_eq_true rfl) rfl rfl ?_
  refine sp_X4_tryNextHour S (fun h1 F1 R1 => ?_)
  have hv1 : Inv h1 := S.1.of F1.1
  have hv := hv1
  refine ok_aload_n dX4_all_4 rfl rfl ?_
  refine ok_getR dX4_all_5 f_X4_20 (by first | exact is_lit hv (by decide) rfl | exact is_sq hv hq | exact is_row hv hq | exact is_pn hv hq (by assumption) | assumption) rfl (by first | exact rf hv rfl | exact rf_row hv hq | assumption) ?_
  refine ok_callV (M' := mX2_allGains) (b' := (0, 0)) (As := []) (cx := 2) dX4_all_8 iX2_allGains w_437 (by decide) rfl (by first | exact is_lit hv (by decide) rfl | exact is_sq hv hq | exact is_row hv hq | exact is_pn hv hq (by assumption) | assumption) rfl (Nat.le_of_ble_eq_true rfl) ⟨Nat.le_of_ble_eq_true rfl, Nat.le_of_ble_eq_true rfl⟩ (Nat.le_of_ble_eq_true rfl) rfl rfl ?_
  refine sp_X2_allGains (q := 14) hv1 s14 hn R1.2.2.1 ?_
  rw [gains_rep R1]
  refine ok_ireturn dX4_all_11 rfl rfl ?_
  exact K h1 F1.fr hv1
theorem sp_X4_on_b {g : GG} {h : Hp} {Post : Option Value → Hp → Prop} {n : Nat} {r : Nat → Int32} (S : Hs h n r) (p : Int32) (v : Int32) (hb : p < 0 ∨ nI n ≤ p) (K : Post (some (.int (-1000000001))) (hfi h 0)) : Sp g mX4_on [.ref 0, .int p, .int v] h Post := by
  show Go g mX4_on 0 [_, _, _, _] [] _ _ _
  have hv := S.1
  have hn := S.2.2.1
  have h6 := S.2.1.2.2.1
  have hq := s2
  refine ok_aload_n dX4_on_0 rfl rfl ?_
  refine ok_getR dX4_on_1 f_X4_16 (by first | exact is_lit hv (by decide) rfl | exact is_sq hv hq | exact is_row hv hq | exact is_pn hv hq (by assumption) | assumption) rfl (by first | exact rf hv rfl | exact rf_row hv hq | assumption) ?_
  refine ok_iload_n dX4_on_4 rfl rfl ?_
  refine ok_callV (M' := mX2_stands) (b' := (0, 0)) (As := [_]) (cx := 2) dX4_on_5 iX2_stands w_271 (by decide) rfl (by first | exact is_lit hv (by decide) rfl | exact is_sq hv hq | exact is_row hv hq | exact is_pn hv hq (by assumption) | assumption) rfl (Nat.le_of_ble_eq_true rfl) ⟨Nat.le_of_ble_eq_true rfl, Nat.le_of_ble_eq_true rfl⟩ (Nat.le_of_ble_eq_true rfl) rfl rfl ?_
  refine sp_X2_stands hv s2 _ ?_
  rw [h6, st_bad hb]
  refine ok_if_eq (tgt := 22) dX4_on_8 (by decide) (fun _ => ?_) (fun c9 => absurd rfl c9)
  refine ok_aload_n dX4_on_22 rfl rfl ?_
  refine ok_ldc dX4_on_23 w_253 ?_
  refine ok_callV (M' := mX4_finding) (b' := (0, 0)) (As := [_]) (cx := 4) dX4_on_25 iX4_finding w_254 (by decide) rfl (by first | exact is_lit hv (by decide) rfl | exact is_sq hv hq | exact is_row hv hq | exact is_pn hv hq (by assumption) | assumption) rfl (Nat.le_of_ble_eq_true rfl) ⟨Nat.le_of_ble_eq_true rfl, Nat.le_of_ble_eq_true rfl⟩ (Nat.le_of_ble_eq_true rfl) rfl rfl ?_
  refine sp_X4_finding hv (k := 0) (by decide) (by decide) ?_
  refine ok_ireturn dX4_on_28 rfl rfl ?_
  first | exact K | (simp only [↓reduceIte] at K; exact K)
theorem sp_X4_on_w {g : GG} {h : Hp} {Post : Option Value → Hp → Prop} {n : Nat} {r : Nat → Int32} (S : Hs h n r) {j : Nat} (hj : j < n) {v : Int32} (hb : v < 0 ∨ 200 < v) (K : Post (some (.int (-1000000001))) (hfi h 0)) : Sp g mX4_on [.ref 0, .int (nI j), .int v] h Post := by
  show Go g mX4_on 0 [_, _, _, _] [] _ _ _
  have hv := S.1
  have hn := S.2.2.1
  have h6 := S.2.1.2.2.1
  have hq := s2
  refine ok_aload_n dX4_on_0 rfl rfl ?_
  refine ok_getR dX4_on_1 f_X4_16 (by first | exact is_lit hv (by decide) rfl | exact is_sq hv hq | exact is_row hv hq | exact is_pn hv hq (by assumption) | assumption) rfl (by first | exact rf hv rfl | exact rf_row hv hq | assumption) ?_
  refine ok_iload_n dX4_on_4 rfl rfl ?_
  refine ok_callV (M' := mX2_stands) (b' := (0, 0)) (As := [_]) (cx := 2) dX4_on_5 iX2_stands w_271 (by decide) rfl (by first | exact is_lit hv (by decide) rfl | exact is_sq hv hq | exact is_row hv hq | exact is_pn hv hq (by assumption) | assumption) rfl (Nat.le_of_ble_eq_true rfl) ⟨Nat.le_of_ble_eq_true rfl, Nat.le_of_ble_eq_true rfl⟩ (Nat.le_of_ble_eq_true rfl) rfl rfl ?_
  refine sp_X2_stands hv s2 _ ?_
  rw [h6, st_ok hn hj]
  refine ok_if_eq (tgt := 22) dX4_on_8 (by decide) (fun c9 => absurd c9 (by decide)) (fun _ => ?_)
  refine ok_iload_n dX4_on_11 rfl rfl ?_
  refine ok_iconst (v := 0) dX4_on_12 (by decide) ?_
  refine ok_sipush (v := 200) dX4_on_13 (by decide) ?_
  refine ok_callS (M' := mX4_isWithin) (b' := (0, 0)) (As := [_, _, _]) dX4_on_16 iX4_isWithin w_302 rfl (Nat.le_of_ble_eq_true rfl) ⟨Nat.le_of_ble_eq_true rfl, Nat.le_of_ble_eq_true rfl⟩ (Nat.le_of_ble_eq_true rfl) rfl rfl ?_
  refine sp_X4_isWithin _ _ _ ?_
  rw [wi_bad hb]
  refine ok_if_ne (tgt := 29) dX4_on_19 (by decide) (fun c9 => absurd c9 (fun c => c rfl)) (fun _ => ?_)
  refine ok_aload_n dX4_on_22 rfl rfl ?_
  refine ok_ldc dX4_on_23 w_253 ?_
  refine ok_callV (M' := mX4_finding) (b' := (0, 0)) (As := [_]) (cx := 4) dX4_on_25 iX4_finding w_254 (by decide) rfl (by first | exact is_lit hv (by decide) rfl | exact is_sq hv hq | exact is_row hv hq | exact is_pn hv hq (by assumption) | assumption) rfl (Nat.le_of_ble_eq_true rfl) ⟨Nat.le_of_ble_eq_true rfl, Nat.le_of_ble_eq_true rfl⟩ (Nat.le_of_ble_eq_true rfl) rfl rfl ?_
  refine sp_X4_finding hv (k := 0) (by decide) (by decide) ?_
  refine ok_ireturn dX4_on_28 rfl rfl ?_
  first | exact K | (simp only [↓reduceIte] at K; exact K)
theorem sp_X4_on_s {g : GG} {h : Hp} {Post : Option Value → Hp → Prop} {n : Nat} {r : Nat → Int32} (S : Hs h n r) {j : Nat} (hj : j < n) {v : Int32} (h1 : ¬ v < 0) (h2 : ¬ 200 < v) (hs : ¬ (r 5 + v ≤ 9999)) (K : Post (some (.int (-1000000005))) (hfi h 4)) : Sp g mX4_on [.ref 0, .int (nI j), .int v] h Post := by
  show Go g mX4_on 0 [_, _, _, _] [] _ _ _
  have hv := S.1
  have hn := S.2.2.1
  have h6 := S.2.1.2.2.1
  have hq := s2
  refine ok_aload_n dX4_on_0 rfl rfl ?_
  refine ok_getR dX4_on_1 f_X4_16 (by first | exact is_lit hv (by decide) rfl | exact is_sq hv hq | exact is_row hv hq | exact is_pn hv hq (by assumption) | assumption) rfl (by first | exact rf hv rfl | exact rf_row hv hq | assumption) ?_
  refine ok_iload_n dX4_on_4 rfl rfl ?_
  refine ok_callV (M' := mX2_stands) (b' := (0, 0)) (As := [_]) (cx := 2) dX4_on_5 iX2_stands w_271 (by decide) rfl (by first | exact is_lit hv (by decide) rfl | exact is_sq hv hq | exact is_row hv hq | exact is_pn hv hq (by assumption) | assumption) rfl (Nat.le_of_ble_eq_true rfl) ⟨Nat.le_of_ble_eq_true rfl, Nat.le_of_ble_eq_true rfl⟩ (Nat.le_of_ble_eq_true rfl) rfl rfl ?_
  refine sp_X2_stands hv s2 _ ?_
  rw [h6, st_ok hn hj]
  refine ok_if_eq (tgt := 22) dX4_on_8 (by decide) (fun c9 => absurd c9 (by decide)) (fun _ => ?_)
  refine ok_iload_n dX4_on_11 rfl rfl ?_
  refine ok_iconst (v := 0) dX4_on_12 (by decide) ?_
  refine ok_sipush (v := 200) dX4_on_13 (by decide) ?_
  refine ok_callS (M' := mX4_isWithin) (b' := (0, 0)) (As := [_, _, _]) dX4_on_16 iX4_isWithin w_302 rfl (Nat.le_of_ble_eq_true rfl) ⟨Nat.le_of_ble_eq_true rfl, Nat.le_of_ble_eq_true rfl⟩ (Nat.le_of_ble_eq_true rfl) rfl rfl ?_
  refine sp_X4_isWithin _ _ _ ?_
  rw [wi_ok h1 h2]
  refine ok_if_ne (tgt := 29) dX4_on_19 (by decide) (fun _ => ?_) (fun c9 => absurd c9 (by decide))
  refine ok_aload_n dX4_on_29 rfl rfl ?_
  refine ok_getR dX4_on_30 f_X4_16 (by first | exact is_lit hv (by decide) rfl | exact is_sq hv hq | exact is_row hv hq | exact is_pn hv hq (by assumption) | assumption) rfl (by first | exact rf hv rfl | exact rf_row hv hq | assumption) ?_
  refine ok_getI dX4_on_33 f_X4_143 (by first | exact is_lit hv (by decide) rfl | exact is_sq hv hq | exact is_row hv hq | exact is_pn hv hq (by assumption) | assumption) rfl ?_
  refine ok_iload_n dX4_on_36 rfl rfl ?_
  refine ok_iadd dX4_on_37 ?_
  refine ok_sipush (v := 9999) dX4_on_38 (by decide) ?_
  rw [S.2.1.2.2.2.1 4 (by decide)]
  refine ok_icmp_le (tgt := 51) dX4_on_41 (by decide) (fun c9 => absurd c9 hs) (fun _ => ?_)
  refine ok_aload_n dX4_on_44 rfl rfl ?_
  refine ok_ldc dX4_on_45 w_362 ?_
  refine ok_callV (M' := mX4_finding) (b' := (0, 0)) (As := [_]) (cx := 4) dX4_on_47 iX4_finding w_254 (by decide) rfl (by first | exact is_lit hv (by decide) rfl | exact is_sq hv hq | exact is_row hv hq | exact is_pn hv hq (by assumption) | assumption) rfl (Nat.le_of_ble_eq_true rfl) ⟨Nat.le_of_ble_eq_true rfl, Nat.le_of_ble_eq_true rfl⟩ (Nat.le_of_ble_eq_true rfl) rfl rfl ?_
  refine sp_X4_finding hv (k := 4) (by decide) (by decide) ?_
  refine ok_ireturn dX4_on_50 rfl rfl ?_
  first | exact K | (simp only [↓reduceIte] at K; exact K)
theorem lp_X4_on_64 {g : GG} {h0 : Hp} {Post : Option Value → Hp → Prop} {n : Nat} {r : Nat → Int32} (S0 : Hs h0 n r) {j : Nat} (hj : j < n) {m : Nat} (hm : m ≤ 200) (K : ∀ h', FrI 14 h0 h' → Post (some (.int (ro (w_hrs r n m) j 5))) h') : ∀ (k i : Nat) (h : Hp), i + k = m → FrI 14 h0 h → Rep h 14 n (w_hrs r n i) → Go g mX4_on 64 [some (.ref 0), some (.int (nI j)), some (.int (nI m)), some (.int (nI i))] [] h (0, 0) Post := by
  intro k
  induction k with
  | zero =>
    intro i h hik F R
    obtain rfl : i = m := by omega
    have hv : Inv h := S0.1.of F.1
    have hq := s14
    have hn := R.1
    have hj10 : j < 10 := by omega
    refine ok_iload_n dX4_on_64 rfl rfl ?_
    refine ok_iload_n dX4_on_65 rfl rfl ?_
    refine ok_icmp_ge (tgt := 85) dX4_on_66 (by decide) (fun _ => ?_) (fun c9 => absurd (nI_le (Nat.le_refl _) (by omega)) c9)
    refine ok_aload_n dX4_on_85 rfl rfl ?_
    refine ok_getR dX4_on_86 f_X4_20 (by first | exact is_lit hv (by decide) rfl | exact is_sq hv hq | exact is_row hv hq | exact is_pn hv hq (by assumption) | assumption) rfl (by first | exact rf hv rfl | exact rf_row hv hq | assumption) ?_
    refine ok_getR dX4_on_89 f_X4_64 (is_sq hv hq) rfl (rf_row hv hq) ?_
    refine ok_iload_n dX4_on_92 rfl rfl ?_
    refine ok_aaloadP dX4_on_93 (by first | exact is_lit hv (by decide) rfl | exact is_sq hv hq | exact is_row hv hq | exact is_pn hv hq (by assumption) | assumption) (by first | (unfold vp_in; decide) | exact vp_in_nI (by assumption) (by decide) | exact vp_in_nI (by omega) (by decide) | assumption) (by first | exact rf_nI hv hq (by assumption) | assumption) ?_
    refine ok_getI dX4_on_94 f_X4_85 (by first | exact is_lit hv (by decide) rfl | exact is_sq hv hq | exact is_row hv hq | exact is_pn hv hq (by assumption) | assumption) rfl ?_
    refine ok_ireturn dX4_on_97 rfl rfl ?_
    rw [show hI h (pn h 14 j) 5 = ro (w_hrs r n i) j 5 from R.2.2.2.2 j 5 hj (by decide)]
    exact K h F
  | succ k ih =>
    intro i h hik F R
    have hi : i < m := by omega
    have hv : Inv h := S0.1.of F.1
    have G := S0.2.2.hrs i
    refine ok_iload_n dX4_on_64 rfl rfl ?_
    refine ok_iload_n dX4_on_65 rfl rfl ?_
    refine ok_icmp_ge (tgt := 85) dX4_on_66 (by decide) (fun c9 => absurd c9 (nI_ge hi (by omega))) (fun _ => ?_)
    refine ok_aload_n dX4_on_69 rfl rfl ?_
    refine ok_getR dX4_on_70 f_X4_20 (by first | exact is_lit hv (by decide) rfl | exact is_sq hv hq | exact is_row hv hq | exact is_pn hv hq (by assumption) | assumption) rfl (by first | exact rf hv rfl | exact rf_row hv hq | assumption) ?_
    refine ok_iconst (v := -1) dX4_on_73 (by decide) ?_
    refine ok_iconst (v := 0) dX4_on_74 (by decide) ?_
    refine ok_callV (M' := mX2_passHour) (b' := (0, 0)) (As := [_, _]) (cx := 2) dX4_on_75 iX2_passHour w_363 (by decide) rfl (by first | exact is_lit hv (by decide) rfl | exact is_sq hv hq | exact is_row hv hq | exact is_pn hv hq (by assumption) | assumption) rfl (Nat.le_of_ble_eq_true rfl) ⟨Nat.le_of_ble_eq_true rfl, Nat.le_of_ble_eq_true rfl⟩ (Nat.le_of_ble_eq_true rfl) rfl rfl ?_
    refine sp_X2_passHour hv s14 R G.kd G.2.2.1 _ _ (fun h2 F2 R2 => ?_)
    refine ok_pop dX4_on_78 rfl ?_
    refine ok_iinc (v := _ + 1) (lo' := [_, _, _, _]) dX4_on_79 rfl rfl (Nat.le_of_ble_eq_true rfl) rfl rfl ?_
    refine ok_goto (tgt := 64) dX4_on_82 (by decide) ?_
    rw [nI_1]
    exact ih (i + 1) h2 (by omega) (F.tr F2) R2
theorem sp_X4_on {g : GG} {h : Hp} {Post : Option Value → Hp → Prop} {n : Nat} {r : Nat → Int32} (S : Hs h n r) {j : Nat} (hj : j < n) {m : Nat} (hm : m ≤ 200) (hs : r 5 + nI m ≤ 9999) (K : ∀ h', Fr 14 h h' → Inv h' → Post (some (.int (ro (w_hrs r n m) j 5))) h') : Sp g mX4_on [.ref 0, .int (nI j), .int (nI m)] h Post := by
  show Go g mX4_on 0 [_, _, _, _] [] _ _ _
  have hv := S.1
  have hn := S.2.2.1
  have h6 := S.2.1.2.2.1
  have hq := s2
  refine ok_aload_n dX4_on_0 rfl rfl ?_
  refine ok_getR dX4_on_1 f_X4_16 (by first | exact is_lit hv (by decide) rfl | exact is_sq hv hq | exact is_row hv hq | exact is_pn hv hq (by assumption) | assumption) rfl (by first | exact rf hv rfl | exact rf_row hv hq | assumption) ?_
  refine ok_iload_n dX4_on_4 rfl rfl ?_
  refine ok_callV (M' := mX2_stands) (b' := (0, 0)) (As := [_]) (cx := 2) dX4_on_5 iX2_stands w_271 (by decide) rfl (by first | exact is_lit hv (by decide) rfl | exact is_sq hv hq | exact is_row hv hq | exact is_pn hv hq (by assumption) | assumption) rfl (Nat.le_of_ble_eq_true rfl) ⟨Nat.le_of_ble_eq_true rfl, Nat.le_of_ble_eq_true rfl⟩ (Nat.le_of_ble_eq_true rfl) rfl rfl ?_
  refine sp_X2_stands hv s2 _ ?_
  rw [h6, st_ok hn hj]
  refine ok_if_eq (tgt := 22) dX4_on_8 (by decide) (fun c9 => absurd c9 (by decide)) (fun _ => ?_)
  refine ok_iload_n dX4_on_11 rfl rfl ?_
  refine ok_iconst (v := 0) dX4_on_12 (by decide) ?_
  refine ok_sipush (v := 200) dX4_on_13 (by decide) ?_
  refine ok_callS (M' := mX4_isWithin) (b' := (0, 0)) (As := [_, _, _]) dX4_on_16 iX4_isWithin w_302 rfl (Nat.le_of_ble_eq_true rfl) ⟨Nat.le_of_ble_eq_true rfl, Nat.le_of_ble_eq_true rfl⟩ (Nat.le_of_ble_eq_true rfl) rfl rfl ?_
  refine sp_X4_isWithin _ _ _ ?_
  rw [wi_ok (v := nI m) (l := 0) (u := 200) (nI_pos (by omega)) (nI_nlt (a := 200) (b := m) hm (by omega))]
  refine ok_if_ne (tgt := 29) dX4_on_19 (by decide) (fun _ => ?_) (fun c9 => absurd c9 (by decide))
  refine ok_aload_n dX4_on_29 rfl rfl ?_
  refine ok_getR dX4_on_30 f_X4_16 (by first | exact is_lit hv (by decide) rfl | exact is_sq hv hq | exact is_row hv hq | exact is_pn hv hq (by assumption) | assumption) rfl (by first | exact rf hv rfl | exact rf_row hv hq | assumption) ?_
  refine ok_getI dX4_on_33 f_X4_143 (by first | exact is_lit hv (by decide) rfl | exact is_sq hv hq | exact is_row hv hq | exact is_pn hv hq (by assumption) | assumption) rfl ?_
  refine ok_iload_n dX4_on_36 rfl rfl ?_
  refine ok_iadd dX4_on_37 ?_
  refine ok_sipush (v := 9999) dX4_on_38 (by decide) ?_
  rw [S.2.1.2.2.2.1 4 (by decide)]
  refine ok_icmp_le (tgt := 51) dX4_on_41 (by decide) (fun _ => ?_) (fun c9 => absurd hs c9)
  refine ok_aload_n dX4_on_51 rfl rfl ?_
  refine ok_getR dX4_on_52 f_X4_20 (by first | exact is_lit hv (by decide) rfl | exact is_sq hv hq | exact is_row hv hq | exact is_pn hv hq (by assumption) | assumption) rfl (by first | exact rf hv rfl | exact rf_row hv hq | assumption) ?_
  refine ok_aload_n dX4_on_55 rfl rfl ?_
  refine ok_getR dX4_on_56 f_X4_16 (by first | exact is_lit hv (by decide) rfl | exact is_sq hv hq | exact is_row hv hq | exact is_pn hv hq (by assumption) | assumption) rfl (by first | exact rf hv rfl | exact rf_row hv hq | assumption) ?_
  refine ok_callV (M' := mX2_become) (b' := (0, 0)) (As := [_]) (cx := 2) dX4_on_59 iX2_become w_405 (by decide) rfl (by first | exact is_lit hv (by decide) rfl | exact is_sq hv hq | exact is_row hv hq | exact is_pn hv hq (by assumption) | assumption) rfl (Nat.le_of_ble_eq_true rfl) ⟨Nat.le_of_ble_eq_true rfl, Nat.le_of_ble_eq_true rfl⟩ (Nat.le_of_ble_eq_true rfl) rfl rfl ?_
  refine sp_X2_become (q := 14) (o := 2) (n := n) (r := r) S.1 s14 s2 (by decide) S.2.1 S.2.2.2.2.2.1 (fun h1 F1 R1 => ?_)
  have hv1 : Inv h1 := S.1.of F1.1
  have hv := hv1
  refine ok_iconst (v := 0) dX4_on_62 (by decide) ?_
  refine ok_istore_n (lo' := [_, _, _, _]) dX4_on_63 rfl (Nat.le_of_ble_eq_true rfl) rfl rfl ?_
  exact lp_X4_on_64 S hj hm (fun h2 F2 => K h2 F2.fr (S.1.of F2.1)) m 0 h1 (by omega) F1 R1
theorem sp_X4_empty_s {g : GG} {h : Hp} {Post : Option Value → Hp → Prop} {n : Nat} {r : Nat → Int32} (S : Hs h n r) (hs : ¬ (r 5 ≤ 9799)) (K : Post (some (.int (-1000000005))) (hfi h 4)) : Sp g mX4_empty [.ref 0] h Post := by
  show Go g mX4_empty 0 [_, _] [] _ _ _
  have hv := S.1
  have hn := S.2.2.1
  have h6 := S.2.1.2.2.1
  have hq := s2
  refine ok_aload_n dX4_empty_0 rfl rfl ?_
  refine ok_getR dX4_empty_1 f_X4_16 (by first | exact is_lit hv (by decide) rfl | exact is_sq hv hq | exact is_row hv hq | exact is_pn hv hq (by assumption) | assumption) rfl (by first | exact rf hv rfl | exact rf_row hv hq | assumption) ?_
  refine ok_getI dX4_empty_4 f_X4_143 (by first | exact is_lit hv (by decide) rfl | exact is_sq hv hq | exact is_row hv hq | exact is_pn hv hq (by assumption) | assumption) rfl ?_
  refine ok_sipush (v := 9799) dX4_empty_7 (by decide) ?_
  rw [S.2.1.2.2.2.1 4 (by decide)]
  refine ok_icmp_le (tgt := 20) dX4_empty_10 (by decide) (fun c9 => absurd c9 hs) (fun _ => ?_)
  refine ok_aload_n dX4_empty_13 rfl rfl ?_
  refine ok_ldc dX4_empty_14 w_362 ?_
  refine ok_callV (M' := mX4_finding) (b' := (0, 0)) (As := [_]) (cx := 4) dX4_empty_16 iX4_finding w_254 (by decide) rfl (by first | exact is_lit hv (by decide) rfl | exact is_sq hv hq | exact is_row hv hq | exact is_pn hv hq (by assumption) | assumption) rfl (Nat.le_of_ble_eq_true rfl) ⟨Nat.le_of_ble_eq_true rfl, Nat.le_of_ble_eq_true rfl⟩ (Nat.le_of_ble_eq_true rfl) rfl rfl ?_
  refine sp_X4_finding hv (k := 4) (by decide) (by decide) ?_
  refine ok_ireturn dX4_empty_19 rfl rfl ?_
  first | exact K | (simp only [↓reduceIte] at K; exact K)
def w_emp (r : Nat → Int32) (n k : Nat) : Int32 := w_sum (fun p => ro (w_hrs r n k) p 1) n
theorem lp_X4_empty_33 {g : GG} {h0 : Hp} {Post : Option Value → Hp → Prop} {n : Nat} {r : Nat → Int32} (S0 : Hs h0 n r) {m : Nat} (hm : m ≤ 200) (he : w_emp r n m = 0) (hne : ∀ k, k < m → ¬ w_emp r n k = 0) (K : ∀ h', FrI 14 h0 h' → Post (some (.int (nI m))) h') : ∀ (k i : Nat) (h : Hp), i + k = m → FrI 14 h0 h → Rep h 14 n (w_hrs r n i) → Go g mX4_empty 33 [some (.ref 0), some (.int (nI i))] [] h (0, 0) Post := by
  intro k
  induction k with
  | zero =>
    intro i h hik F R
    obtain rfl : i = m := by omega
    have hv : Inv h := S0.1.of F.1
    have hn := R.1
    have G := S0.2.2.hrs i
    refine ok_iload_n dX4_empty_33 rfl rfl ?_
    refine ok_sipush (v := 200) dX4_empty_34 (by decide) ?_
    refine ok_icmp_gt (tgt := 68) dX4_empty_37 (by decide) (fun c9 => absurd c9 (nI_nlt (a := 200) (b := i) hm (by omega))) (fun _ => ?_)
    refine ok_aload_n dX4_empty_40 rfl rfl ?_
    refine ok_getR dX4_empty_41 f_X4_20 (by first | exact is_lit hv (by decide) rfl | exact is_sq hv hq | exact is_row hv hq | exact is_pn hv hq (by assumption) | assumption) rfl (by first | exact rf hv rfl | exact rf_row hv hq | assumption) ?_
    refine ok_callV (M' := mX2_allPurses) (b' := (0, 0)) (As := []) (cx := 2) dX4_empty_44 iX2_allPurses w_385 (by decide) rfl (by first | exact is_lit hv (by decide) rfl | exact is_sq hv hq | exact is_row hv hq | exact is_pn hv hq (by assumption) | assumption) rfl (Nat.le_of_ble_eq_true rfl) ⟨Nat.le_of_ble_eq_true rfl, Nat.le_of_ble_eq_true rfl⟩ (Nat.le_of_ble_eq_true rfl) rfl rfl ?_
    refine sp_X2_allPurses hv s14 hn R.2.2.1 ?_
    rw [sum_rep R (by decide)]
    refine ok_if_ne (tgt := 52) dX4_empty_47 (by decide) (fun c9 => absurd he c9) (fun _ => ?_)
    refine ok_iload_n dX4_empty_50 rfl rfl ?_
    refine ok_ireturn dX4_empty_51 rfl rfl ?_
    exact K h F
  | succ k ih =>
    intro i h hik F R
    have hi : i < m := by omega
    have hv : Inv h := S0.1.of F.1
    have hn := R.1
    have G := S0.2.2.hrs i
    refine ok_iload_n dX4_empty_33 rfl rfl ?_
    refine ok_sipush (v := 200) dX4_empty_34 (by decide) ?_
    refine ok_icmp_gt (tgt := 68) dX4_empty_37 (by decide) (fun c9 => absurd c9 (nI_nlt (a := 200) (b := i) (by omega) (by omega))) (fun _ => ?_)
    refine ok_aload_n dX4_empty_40 rfl rfl ?_
    refine ok_getR dX4_empty_41 f_X4_20 (by first | exact is_lit hv (by decide) rfl | exact is_sq hv hq | exact is_row hv hq | exact is_pn hv hq (by assumption) | assumption) rfl (by first | exact rf hv rfl | exact rf_row hv hq | assumption) ?_
    refine ok_callV (M' := mX2_allPurses) (b' := (0, 0)) (As := []) (cx := 2) dX4_empty_44 iX2_allPurses w_385 (by decide) rfl (by first | exact is_lit hv (by decide) rfl | exact is_sq hv hq | exact is_row hv hq | exact is_pn hv hq (by assumption) | assumption) rfl (Nat.le_of_ble_eq_true rfl) ⟨Nat.le_of_ble_eq_true rfl, Nat.le_of_ble_eq_true rfl⟩ (Nat.le_of_ble_eq_true rfl) rfl rfl ?_
    refine sp_X2_allPurses hv s14 hn R.2.2.1 ?_
    rw [sum_rep R (by decide)]
    refine ok_if_ne (tgt := 52) dX4_empty_47 (by decide) (fun _ => ?_) (fun c9 => absurd c9 (hne i hi))
    refine ok_aload_n dX4_empty_52 rfl rfl ?_
    refine ok_getR dX4_empty_53 f_X4_20 (by first | exact is_lit hv (by decide) rfl | exact is_sq hv hq | exact is_row hv hq | exact is_pn hv hq (by assumption) | assumption) rfl (by first | exact rf hv rfl | exact rf_row hv hq | assumption) ?_
    refine ok_iconst (v := -1) dX4_empty_56 (by decide) ?_
    refine ok_iconst (v := 0) dX4_empty_57 (by decide) ?_
    refine ok_callV (M' := mX2_passHour) (b' := (0, 0)) (As := [_, _]) (cx := 2) dX4_empty_58 iX2_passHour w_363 (by decide) rfl (by first | exact is_lit hv (by decide) rfl | exact is_sq hv hq | exact is_row hv hq | exact is_pn hv hq (by assumption) | assumption) rfl (Nat.le_of_ble_eq_true rfl) ⟨Nat.le_of_ble_eq_true rfl, Nat.le_of_ble_eq_true rfl⟩ (Nat.le_of_ble_eq_true rfl) rfl rfl ?_
    refine sp_X2_passHour hv s14 R G.kd G.2.2.1 _ _ (fun h2 F2 R2 => ?_)
    refine ok_pop dX4_empty_61 rfl ?_
    refine ok_iinc (v := _ + 1) (lo' := [_, _]) dX4_empty_62 rfl rfl (Nat.le_of_ble_eq_true rfl) rfl rfl ?_
    refine ok_goto (tgt := 33) dX4_empty_65 (by decide) ?_
    rw [nI_1]
    exact ih (i + 1) h2 (by omega) (F.tr F2) R2
theorem lp_X4_empty_33n {g : GG} {h0 : Hp} {Post : Option Value → Hp → Prop} {n : Nat} {r : Nat → Int32} (S0 : Hs h0 n r) (hne : ∀ k, k < 201 → ¬ w_emp r n k = 0) (K : ∀ h', FrI 14 h0 h' → Post (some (.int (-1000000004))) (hfi h' 3)) : ∀ (k i : Nat) (h : Hp), i + k = 201 → FrI 14 h0 h → Rep h 14 n (w_hrs r n i) → Go g mX4_empty 33 [some (.ref 0), some (.int (nI i))] [] h (0, 0) Post := by
  intro k
  induction k with
  | zero =>
    intro i h hik F R
    obtain rfl : i = 201 := by omega
    have hv : Inv h := S0.1.of F.1
    have hn := R.1
    refine ok_iload_n dX4_empty_33 rfl rfl ?_
    refine ok_sipush (v := 200) dX4_empty_34 (by decide) ?_
    refine ok_icmp_gt (tgt := 68) dX4_empty_37 (by decide) (fun _ => ?_) (fun c9 => absurd (by decide) c9)
    refine ok_aload_n dX4_empty_68 rfl rfl ?_
    refine ok_ldc dX4_empty_69 w_450 ?_
    refine ok_callV (M' := mX4_finding) (b' := (0, 0)) (As := [_]) (cx := 4) dX4_empty_71 iX4_finding w_254 (by decide) rfl (by first | exact is_lit hv (by decide) rfl | exact is_sq hv hq | exact is_row hv hq | exact is_pn hv hq (by assumption) | assumption) rfl (Nat.le_of_ble_eq_true rfl) ⟨Nat.le_of_ble_eq_true rfl, Nat.le_of_ble_eq_true rfl⟩ (Nat.le_of_ble_eq_true rfl) rfl rfl ?_
    refine sp_X4_finding hv (k := 3) (by decide) (by decide) ?_
    refine ok_ireturn dX4_empty_74 rfl rfl ?_
    exact K h F
  | succ k ih =>
    intro i h hik F R
    have hi : i < 201 := by omega
    have hv : Inv h := S0.1.of F.1
    have hn := R.1
    have G := S0.2.2.hrs i
    refine ok_iload_n dX4_empty_33 rfl rfl ?_
    refine ok_sipush (v := 200) dX4_empty_34 (by decide) ?_
    refine ok_icmp_gt (tgt := 68) dX4_empty_37 (by decide) (fun c9 => absurd c9 (nI_nlt (a := 200) (b := i) (by omega) (by omega))) (fun _ => ?_)
    refine ok_aload_n dX4_empty_40 rfl rfl ?_
    refine ok_getR dX4_empty_41 f_X4_20 (by first | exact is_lit hv (by decide) rfl | exact is_sq hv hq | exact is_row hv hq | exact is_pn hv hq (by assumption) | assumption) rfl (by first | exact rf hv rfl | exact rf_row hv hq | assumption) ?_
    refine ok_callV (M' := mX2_allPurses) (b' := (0, 0)) (As := []) (cx := 2) dX4_empty_44 iX2_allPurses w_385 (by decide) rfl (by first | exact is_lit hv (by decide) rfl | exact is_sq hv hq | exact is_row hv hq | exact is_pn hv hq (by assumption) | assumption) rfl (Nat.le_of_ble_eq_true rfl) ⟨Nat.le_of_ble_eq_true rfl, Nat.le_of_ble_eq_true rfl⟩ (Nat.le_of_ble_eq_true rfl) rfl rfl ?_
    refine sp_X2_allPurses hv s14 hn R.2.2.1 ?_
    rw [sum_rep R (by decide)]
    refine ok_if_ne (tgt := 52) dX4_empty_47 (by decide) (fun _ => ?_) (fun c9 => absurd c9 (hne i hi))
    refine ok_aload_n dX4_empty_52 rfl rfl ?_
    refine ok_getR dX4_empty_53 f_X4_20 (by first | exact is_lit hv (by decide) rfl | exact is_sq hv hq | exact is_row hv hq | exact is_pn hv hq (by assumption) | assumption) rfl (by first | exact rf hv rfl | exact rf_row hv hq | assumption) ?_
    refine ok_iconst (v := -1) dX4_empty_56 (by decide) ?_
    refine ok_iconst (v := 0) dX4_empty_57 (by decide) ?_
    refine ok_callV (M' := mX2_passHour) (b' := (0, 0)) (As := [_, _]) (cx := 2) dX4_empty_58 iX2_passHour w_363 (by decide) rfl (by first | exact is_lit hv (by decide) rfl | exact is_sq hv hq | exact is_row hv hq | exact is_pn hv hq (by assumption) | assumption) rfl (Nat.le_of_ble_eq_true rfl) ⟨Nat.le_of_ble_eq_true rfl, Nat.le_of_ble_eq_true rfl⟩ (Nat.le_of_ble_eq_true rfl) rfl rfl ?_
    refine sp_X2_passHour hv s14 R G.kd G.2.2.1 _ _ (fun h2 F2 R2 => ?_)
    refine ok_pop dX4_empty_61 rfl ?_
    refine ok_iinc (v := _ + 1) (lo' := [_, _]) dX4_empty_62 rfl rfl (Nat.le_of_ble_eq_true rfl) rfl rfl ?_
    refine ok_goto (tgt := 33) dX4_empty_65 (by decide) ?_
    rw [nI_1]
    exact ih (i + 1) h2 (by omega) (F.tr F2) R2
theorem sp_X4_empty {g : GG} {h : Hp} {Post : Option Value → Hp → Prop} {n : Nat} {r : Nat → Int32} (S : Hs h n r) (hs : r 5 ≤ 9799) {m : Nat} (hm : m ≤ 200) (he : w_emp r n m = 0) (hne : ∀ k, k < m → ¬ w_emp r n k = 0) (K : ∀ h', Fr 14 h h' → Inv h' → Post (some (.int (nI m))) h') : Sp g mX4_empty [.ref 0] h Post := by
  show Go g mX4_empty 0 [_, _] [] _ _ _
  have hv := S.1
  have hn := S.2.2.1
  have h6 := S.2.1.2.2.1
  have hq := s2
  refine ok_aload_n dX4_empty_0 rfl rfl ?_
  refine ok_getR dX4_empty_1 f_X4_16 (by first | exact is_lit hv (by decide) rfl | exact is_sq hv hq | exact is_row hv hq | exact is_pn hv hq (by assumption) | assumption) rfl (by first | exact rf hv rfl | exact rf_row hv hq | assumption) ?_
  refine ok_getI dX4_empty_4 f_X4_143 (by first | exact is_lit hv (by decide) rfl | exact is_sq hv hq | exact is_row hv hq | exact is_pn hv hq (by assumption) | assumption) rfl ?_
  refine ok_sipush (v := 9799) dX4_empty_7 (by decide) ?_
  rw [S.2.1.2.2.2.1 4 (by decide)]
  refine ok_icmp_le (tgt := 20) dX4_empty_10 (by decide) (fun _ => ?_) (fun c9 => absurd hs c9)
  refine ok_aload_n dX4_empty_20 rfl rfl ?_
  refine ok_getR dX4_empty_21 f_X4_20 (by first | exact is_lit hv (by decide) rfl | exact is_sq hv hq | exact is_row hv hq | exact is_pn hv hq (by assumption) | assumption) rfl (by first | exact rf hv rfl | exact rf_row hv hq | assumption) ?_
  refine ok_aload_n dX4_empty_24 rfl rfl ?_
  refine ok_getR dX4_empty_25 f_X4_16 (by first | exact is_lit hv (by decide) rfl | exact is_sq hv hq | exact is_row hv hq | exact is_pn hv hq (by assumption) | assumption) rfl (by first | exact rf hv rfl | exact rf_row hv hq | assumption) ?_
  refine ok_callV (M' := mX2_become) (b' := (0, 0)) (As := [_]) (cx := 2) dX4_empty_28 iX2_become w_405 (by decide) rfl (by first | exact is_lit hv (by decide) rfl | exact is_sq hv hq | exact is_row hv hq | exact is_pn hv hq (by assumption) | assumption) rfl (Nat.le_of_ble_eq_true rfl) ⟨Nat.le_of_ble_eq_true rfl, Nat.le_of_ble_eq_true rfl⟩ (Nat.le_of_ble_eq_true rfl) rfl rfl ?_
  refine sp_X2_become (q := 14) (o := 2) (n := n) (r := r) S.1 s14 s2 (by decide) S.2.1 S.2.2.2.2.2.1 (fun h1 F1 R1 => ?_)
  have hv1 : Inv h1 := S.1.of F1.1
  have hv := hv1
  refine ok_iconst (v := 0) dX4_empty_31 (by decide) ?_
  refine ok_istore_n (lo' := [_, _]) dX4_empty_32 rfl (Nat.le_of_ble_eq_true rfl) rfl rfl ?_
  exact lp_X4_empty_33 S hm he hne (fun h2 F2 => K h2 F2.fr (S.1.of F2.1)) m 0 h1 (by omega) F1 R1
theorem sp_X4_empty_n {g : GG} {h : Hp} {Post : Option Value → Hp → Prop} {n : Nat} {r : Nat → Int32} (S : Hs h n r) (hs : r 5 ≤ 9799) (hne : ∀ k, k < 201 → ¬ w_emp r n k = 0) (K : ∀ h', Fr 14 h h' → Inv h' → Post (some (.int (-1000000004))) (hfi h' 3)) : Sp g mX4_empty [.ref 0] h Post := by
  show Go g mX4_empty 0 [_, _] [] _ _ _
  have hv := S.1
  have hn := S.2.2.1
  have h6 := S.2.1.2.2.1
  have hq := s2
  refine ok_aload_n dX4_empty_0 rfl rfl ?_
  refine ok_getR dX4_empty_1 f_X4_16 (by first | exact is_lit hv (by decide) rfl | exact is_sq hv hq | exact is_row hv hq | exact is_pn hv hq (by assumption) | assumption) rfl (by first | exact rf hv rfl | exact rf_row hv hq | assumption) ?_
  refine ok_getI dX4_empty_4 f_X4_143 (by first | exact is_lit hv (by decide) rfl | exact is_sq hv hq | exact is_row hv hq | exact is_pn hv hq (by assumption) | assumption) rfl ?_
  refine ok_sipush (v := 9799) dX4_empty_7 (by decide) ?_
  rw [S.2.1.2.2.2.1 4 (by decide)]
  refine ok_icmp_le (tgt := 20) dX4_empty_10 (by decide) (fun _ => ?_) (fun c9 => absurd hs c9)
  refine ok_aload_n dX4_empty_20 rfl rfl ?_
  refine ok_getR dX4_empty_21 f_X4_20 (by first | exact is_lit hv (by decide) rfl | exact is_sq hv hq | exact is_row hv hq | exact is_pn hv hq (by assumption) | assumption) rfl (by first | exact rf hv rfl | exact rf_row hv hq | assumption) ?_
  refine ok_aload_n dX4_empty_24 rfl rfl ?_
  refine ok_getR dX4_empty_25 f_X4_16 (by first | exact is_lit hv (by decide) rfl | exact is_sq hv hq | exact is_row hv hq | exact is_pn hv hq (by assumption) | assumption) rfl (by first | exact rf hv rfl | exact rf_row hv hq | assumption) ?_
  refine ok_callV (M' := mX2_become) (b' := (0, 0)) (As := [_]) (cx := 2) dX4_empty_28 iX2_become w_405 (by decide) rfl (by first | exact is_lit hv (by decide) rfl | exact is_sq hv hq | exact is_row hv hq | exact is_pn hv hq (by assumption) | assumption) rfl (Nat.le_of_ble_eq_true rfl) ⟨Nat.le_of_ble_eq_true rfl, Nat.le_of_ble_eq_true rfl⟩ (Nat.le_of_ble_eq_true rfl) rfl rfl ?_
  refine sp_X2_become (q := 14) (o := 2) (n := n) (r := r) S.1 s14 s2 (by decide) S.2.1 S.2.2.2.2.2.1 (fun h1 F1 R1 => ?_)
  have hv1 : Inv h1 := S.1.of F1.1
  have hv := hv1
  refine ok_iconst (v := 0) dX4_empty_31 (by decide) ?_
  refine ok_istore_n (lo' := [_, _]) dX4_empty_32 rfl (Nat.le_of_ble_eq_true rfl) rfl rfl ?_
  exact lp_X4_empty_33n S hne (fun h2 F2 => K h2 F2.fr (S.1.of F2.1)) 201 0 h1 (by omega) F1 R1
theorem sp_X4_gainIf_b {g : GG} {h : Hp} {Post : Option Value → Hp → Prop} {n : Nat} {r : Nat → Int32} (S : Hs h n r) (p : Int32) (c : Int32) (hb : p < 0 ∨ nI n ≤ p) (K : Post (some (.int (-1000000001))) (hfi h 0)) : Sp g mX4_gainIf [.ref 0, .int p, .int c] h Post := by
  show Go g mX4_gainIf 0 [_, _, _] [] _ _ _
  have hv := S.1
  have hn := S.2.2.1
  have h6 := S.2.1.2.2.1
  have hq := s2
  refine ok_aload_n dX4_gainIf_0 rfl rfl ?_
  refine ok_getR dX4_gainIf_1 f_X4_16 (by first | exact is_lit hv (by decide) rfl | exact is_sq hv hq | exact is_row hv hq | exact is_pn hv hq (by assumption) | assumption) rfl (by first | exact rf hv rfl | exact rf_row hv hq | assumption) ?_
  refine ok_iload_n dX4_gainIf_4 rfl rfl ?_
  refine ok_callV (M' := mX2_stands) (b' := (0, 0)) (As := [_]) (cx := 2) dX4_gainIf_5 iX2_stands w_271 (by decide) rfl (by first | exact is_lit hv (by decide) rfl | exact is_sq hv hq | exact is_row hv hq | exact is_pn hv hq (by assumption) | assumption) rfl (Nat.le_of_ble_eq_true rfl) ⟨Nat.le_of_ble_eq_true rfl, Nat.le_of_ble_eq_true rfl⟩ (Nat.le_of_ble_eq_true rfl) rfl rfl ?_
  refine sp_X2_stands hv s2 _ ?_
  rw [h6, st_bad hb]
  refine ok_if_eq (tgt := 21) dX4_gainIf_8 (by decide) (fun _ => ?_) (fun c9 => absurd rfl c9)
  refine ok_aload_n dX4_gainIf_21 rfl rfl ?_
  refine ok_ldc dX4_gainIf_22 w_253 ?_
  refine ok_callV (M' := mX4_finding) (b' := (0, 0)) (As := [_]) (cx := 4) dX4_gainIf_24 iX4_finding w_254 (by decide) rfl (by first | exact is_lit hv (by decide) rfl | exact is_sq hv hq | exact is_row hv hq | exact is_pn hv hq (by assumption) | assumption) rfl (Nat.le_of_ble_eq_true rfl) ⟨Nat.le_of_ble_eq_true rfl, Nat.le_of_ble_eq_true rfl⟩ (Nat.le_of_ble_eq_true rfl) rfl rfl ?_
  refine sp_X4_finding hv (k := 0) (by decide) (by decide) ?_
  refine ok_ireturn dX4_gainIf_27 rfl rfl ?_
  first | exact K | (simp only [↓reduceIte] at K; exact K)
theorem sp_X4_gainIf_w {g : GG} {h : Hp} {Post : Option Value → Hp → Prop} {n : Nat} {r : Nat → Int32} (S : Hs h n r) {j : Nat} (hj : j < n) {c : Int32} (hb : c < 0 ∨ 99 < c) (K : Post (some (.int (-1000000001))) (hfi h 0)) : Sp g mX4_gainIf [.ref 0, .int (nI j), .int c] h Post := by
  show Go g mX4_gainIf 0 [_, _, _] [] _ _ _
  have hv := S.1
  have hn := S.2.2.1
  have h6 := S.2.1.2.2.1
  have hq := s2
  refine ok_aload_n dX4_gainIf_0 rfl rfl ?_
  refine ok_getR dX4_gainIf_1 f_X4_16 (by first | exact is_lit hv (by decide) rfl | exact is_sq hv hq | exact is_row hv hq | exact is_pn hv hq (by assumption) | assumption) rfl (by first | exact rf hv rfl | exact rf_row hv hq | assumption) ?_
  refine ok_iload_n dX4_gainIf_4 rfl rfl ?_
  refine ok_callV (M' := mX2_stands) (b' := (0, 0)) (As := [_]) (cx := 2) dX4_gainIf_5 iX2_stands w_271 (by decide) rfl (by first | exact is_lit hv (by decide) rfl | exact is_sq hv hq | exact is_row hv hq | exact is_pn hv hq (by assumption) | assumption) rfl (Nat.le_of_ble_eq_true rfl) ⟨Nat.le_of_ble_eq_true rfl, Nat.le_of_ble_eq_true rfl⟩ (Nat.le_of_ble_eq_true rfl) rfl rfl ?_
  refine sp_X2_stands hv s2 _ ?_
  rw [h6, st_ok hn hj]
  refine ok_if_eq (tgt := 21) dX4_gainIf_8 (by decide) (fun c9 => absurd c9 (by decide)) (fun _ => ?_)
  refine ok_iload_n dX4_gainIf_11 rfl rfl ?_
  refine ok_iconst (v := 0) dX4_gainIf_12 (by decide) ?_
  refine ok_bipush (v := 99) dX4_gainIf_13 (by decide) ?_
  refine ok_callS (M' := mX4_isWithin) (b' := (0, 0)) (As := [_, _, _]) dX4_gainIf_15 iX4_isWithin w_302 rfl (Nat.le_of_ble_eq_true rfl) ⟨Nat.le_of_ble_eq_true rfl, Nat.le_of_ble_eq_true rfl⟩ (Nat.le_of_ble_eq_true rfl) rfl rfl ?_
  refine sp_X4_isWithin _ _ _ ?_
  rw [wi_bad hb]
  refine ok_if_ne (tgt := 28) dX4_gainIf_18 (by decide) (fun c9 => absurd c9 (fun c => c rfl)) (fun _ => ?_)
  refine ok_aload_n dX4_gainIf_21 rfl rfl ?_
  refine ok_ldc dX4_gainIf_22 w_253 ?_
  refine ok_callV (M' := mX4_finding) (b' := (0, 0)) (As := [_]) (cx := 4) dX4_gainIf_24 iX4_finding w_254 (by decide) rfl (by first | exact is_lit hv (by decide) rfl | exact is_sq hv hq | exact is_row hv hq | exact is_pn hv hq (by assumption) | assumption) rfl (Nat.le_of_ble_eq_true rfl) ⟨Nat.le_of_ble_eq_true rfl, Nat.le_of_ble_eq_true rfl⟩ (Nat.le_of_ble_eq_true rfl) rfl rfl ?_
  refine sp_X4_finding hv (k := 0) (by decide) (by decide) ?_
  refine ok_ireturn dX4_gainIf_27 rfl rfl ?_
  first | exact K | (simp only [↓reduceIte] at K; exact K)
theorem sp_X4_gainIf_s {g : GG} {h : Hp} {Post : Option Value → Hp → Prop} {n : Nat} {r : Nat → Int32} (S : Hs h n r) {j : Nat} (hj : j < n) {c : Int32} (h1 : ¬ c < 0) (h2 : ¬ 99 < c) (hs : ¬ c ≤ ro r j 1) (K : Post (some (.int (-1000000005))) (hfi h 4)) : Sp g mX4_gainIf [.ref 0, .int (nI j), .int c] h Post := by
  show Go g mX4_gainIf 0 [_, _, _] [] _ _ _
  have hv := S.1
  have hn := S.2.2.1
  have h6 := S.2.1.2.2.1
  have hq := s2
  have hj10 : j < 10 := by omega
  have ep : ∀ f, f < 7 → hI h (pn h 2 j) f = ro r j f := fun f hf => S.2.1.2.2.2.2 j f hj hf
  refine ok_aload_n dX4_gainIf_0 rfl rfl ?_
  refine ok_getR dX4_gainIf_1 f_X4_16 (by first | exact is_lit hv (by decide) rfl | exact is_sq hv hq | exact is_row hv hq | exact is_pn hv hq (by assumption) | assumption) rfl (by first | exact rf hv rfl | exact rf_row hv hq | assumption) ?_
  refine ok_iload_n dX4_gainIf_4 rfl rfl ?_
  refine ok_callV (M' := mX2_stands) (b' := (0, 0)) (As := [_]) (cx := 2) dX4_gainIf_5 iX2_stands w_271 (by decide) rfl (by first | exact is_lit hv (by decide) rfl | exact is_sq hv hq | exact is_row hv hq | exact is_pn hv hq (by assumption) | assumption) rfl (Nat.le_of_ble_eq_true rfl) ⟨Nat.le_of_ble_eq_true rfl, Nat.le_of_ble_eq_true rfl⟩ (Nat.le_of_ble_eq_true rfl) rfl rfl ?_
  refine sp_X2_stands hv s2 _ ?_
  rw [h6, st_ok hn hj]
  refine ok_if_eq (tgt := 21) dX4_gainIf_8 (by decide) (fun c9 => absurd c9 (by decide)) (fun _ => ?_)
  refine ok_iload_n dX4_gainIf_11 rfl rfl ?_
  refine ok_iconst (v := 0) dX4_gainIf_12 (by decide) ?_
  refine ok_bipush (v := 99) dX4_gainIf_13 (by decide) ?_
  refine ok_callS (M' := mX4_isWithin) (b' := (0, 0)) (As := [_, _, _]) dX4_gainIf_15 iX4_isWithin w_302 rfl (Nat.le_of_ble_eq_true rfl) ⟨Nat.le_of_ble_eq_true rfl, Nat.le_of_ble_eq_true rfl⟩ (Nat.le_of_ble_eq_true rfl) rfl rfl ?_
  refine sp_X4_isWithin _ _ _ ?_
  rw [wi_ok h1 h2]
  refine ok_if_ne (tgt := 28) dX4_gainIf_18 (by decide) (fun _ => ?_) (fun c9 => absurd c9 (by decide))
  refine ok_aload_n dX4_gainIf_28 rfl rfl ?_
  refine ok_getR dX4_gainIf_29 f_X4_16 (by first | exact is_lit hv (by decide) rfl | exact is_sq hv hq | exact is_row hv hq | exact is_pn hv hq (by assumption) | assumption) rfl (by first | exact rf hv rfl | exact rf_row hv hq | assumption) ?_
  refine ok_getR dX4_gainIf_32 f_X4_64 (is_sq hv hq) rfl (rf_row hv hq) ?_
  refine ok_iload_n dX4_gainIf_35 rfl rfl ?_
  refine ok_aaloadP dX4_gainIf_36 (by first | exact is_lit hv (by decide) rfl | exact is_sq hv hq | exact is_row hv hq | exact is_pn hv hq (by assumption) | assumption) (by first | (unfold vp_in; decide) | exact vp_in_nI (by assumption) (by decide) | exact vp_in_nI (by omega) (by decide) | assumption) (by first | exact rf_nI hv hq (by assumption) | assumption) ?_
  refine ok_getI dX4_gainIf_37 f_X4_73 (by first | exact is_lit hv (by decide) rfl | exact is_sq hv hq | exact is_row hv hq | exact is_pn hv hq (by assumption) | assumption) rfl ?_
  refine ok_iload_n dX4_gainIf_40 rfl rfl ?_
  rw [ep 1 (by decide)]
  refine ok_icmp_ge (tgt := 51) dX4_gainIf_41 (by decide) (fun c9 => absurd c9 hs) (fun _ => ?_)
  refine ok_aload_n dX4_gainIf_44 rfl rfl ?_
  refine ok_ldc dX4_gainIf_45 w_362 ?_
  refine ok_callV (M' := mX4_finding) (b' := (0, 0)) (As := [_]) (cx := 4) dX4_gainIf_47 iX4_finding w_254 (by decide) rfl (by first | exact is_lit hv (by decide) rfl | exact is_sq hv hq | exact is_row hv hq | exact is_pn hv hq (by assumption) | assumption) rfl (Nat.le_of_ble_eq_true rfl) ⟨Nat.le_of_ble_eq_true rfl, Nat.le_of_ble_eq_true rfl⟩ (Nat.le_of_ble_eq_true rfl) rfl rfl ?_
  refine sp_X4_finding hv (k := 4) (by decide) (by decide) ?_
  refine ok_ireturn dX4_gainIf_50 rfl rfl ?_
  first | exact K | (simp only [↓reduceIte] at K; exact K)
theorem sp_X4_gainIf {g : GG} {h : Hp} {Post : Option Value → Hp → Prop} {n : Nat} {r : Nat → Int32} (S : Hs h n r) {j : Nat} (hj : j < n) {c : Int32} (h1 : ¬ c < 0) (h2 : ¬ 99 < c) (hs : c ≤ ro r j 1) (K : ∀ h', Fr 14 h h' → Inv h' → Post (some (.int (w_gain r n (nI j) c j))) h') : Sp g mX4_gainIf [.ref 0, .int (nI j), .int c] h Post := by
  show Go g mX4_gainIf 0 [_, _, _] [] _ _ _
  have hv := S.1
  have hn := S.2.2.1
  have h6 := S.2.1.2.2.1
  have hq := s2
  have hj10 : j < 10 := by omega
  have ep : ∀ f, f < 7 → hI h (pn h 2 j) f = ro r j f := fun f hf => S.2.1.2.2.2.2 j f hj hf
  refine ok_aload_n dX4_gainIf_0 rfl rfl ?_
  refine ok_getR dX4_gainIf_1 f_X4_16 (by first | exact is_lit hv (by decide) rfl | exact is_sq hv hq | exact is_row hv hq | exact is_pn hv hq (by assumption) | assumption) rfl (by first | exact rf hv rfl | exact rf_row hv hq | assumption) ?_
  refine ok_iload_n dX4_gainIf_4 rfl rfl ?_
  refine ok_callV (M' := mX2_stands) (b' := (0, 0)) (As := [_]) (cx := 2) dX4_gainIf_5 iX2_stands w_271 (by decide) rfl (by first | exact is_lit hv (by decide) rfl | exact is_sq hv hq | exact is_row hv hq | exact is_pn hv hq (by assumption) | assumption) rfl (Nat.le_of_ble_eq_true rfl) ⟨Nat.le_of_ble_eq_true rfl, Nat.le_of_ble_eq_true rfl⟩ (Nat.le_of_ble_eq_true rfl) rfl rfl ?_
  refine sp_X2_stands hv s2 _ ?_
  rw [h6, st_ok hn hj]
  refine ok_if_eq (tgt := 21) dX4_gainIf_8 (by decide) (fun c9 => absurd c9 (by decide)) (fun _ => ?_)
  refine ok_iload_n dX4_gainIf_11 rfl rfl ?_
  refine ok_iconst (v := 0) dX4_gainIf_12 (by decide) ?_
  refine ok_bipush (v := 99) dX4_gainIf_13 (by decide) ?_
  refine ok_callS (M' := mX4_isWithin) (b' := (0, 0)) (As := [_, _, _]) dX4_gainIf_15 iX4_isWithin w_302 rfl (Nat.le_of_ble_eq_true rfl) ⟨Nat.le_of_ble_eq_true rfl, Nat.le_of_ble_eq_true rfl⟩ (Nat.le_of_ble_eq_true rfl) rfl rfl ?_
  refine sp_X4_isWithin _ _ _ ?_
  rw [wi_ok h1 h2]
  refine ok_if_ne (tgt := 28) dX4_gainIf_18 (by decide) (fun _ => ?_) (fun c9 => absurd c9 (by decide))
  refine ok_aload_n dX4_gainIf_28 rfl rfl ?_
  refine ok_getR dX4_gainIf_29 f_X4_16 (by first | exact is_lit hv (by decide) rfl | exact is_sq hv hq | exact is_row hv hq | exact is_pn hv hq (by assumption) | assumption) rfl (by first | exact rf hv rfl | exact rf_row hv hq | assumption) ?_
  refine ok_getR dX4_gainIf_32 f_X4_64 (is_sq hv hq) rfl (rf_row hv hq) ?_
  refine ok_iload_n dX4_gainIf_35 rfl rfl ?_
  refine ok_aaloadP dX4_gainIf_36 (by first | exact is_lit hv (by decide) rfl | exact is_sq hv hq | exact is_row hv hq | exact is_pn hv hq (by assumption) | assumption) (by first | (unfold vp_in; decide) | exact vp_in_nI (by assumption) (by decide) | exact vp_in_nI (by omega) (by decide) | assumption) (by first | exact rf_nI hv hq (by assumption) | assumption) ?_
  refine ok_getI dX4_gainIf_37 f_X4_73 (by first | exact is_lit hv (by decide) rfl | exact is_sq hv hq | exact is_row hv hq | exact is_pn hv hq (by assumption) | assumption) rfl ?_
  refine ok_iload_n dX4_gainIf_40 rfl rfl ?_
  rw [ep 1 (by decide)]
  refine ok_icmp_ge (tgt := 51) dX4_gainIf_41 (by decide) (fun _ => ?_) (fun c9 => absurd hs c9)
  refine ok_aload_n dX4_gainIf_51 rfl rfl ?_
  refine ok_iload_n dX4_gainIf_52 rfl rfl ?_
  refine ok_iload_n dX4_gainIf_53 rfl rfl ?_
  refine ok_callV (M' := mX4_gainThrowing) (b' := (0, 0)) (As := [_, _]) (cx := 4) dX4_gainIf_54 iX4_gainThrowing w_455 (by decide) rfl (by first | exact is_lit hv (by decide) rfl | exact is_sq hv hq | exact is_row hv hq | exact is_pn hv hq (by assumption) | assumption) rfl (Nat.le_of_ble_eq_true rfl) ⟨Nat.le_of_ble_eq_true rfl, Nat.le_of_ble_eq_true rfl⟩ (Nat.le_of_ble_eq_true rfl) rfl rfl ?_
  refine sp_X4_gainThrowing S hj _ (fun h1 F1 hv1 => ?_)
  refine ok_ireturn dX4_gainIf_57 rfl rfl ?_
  exact K h1 F1 hv1
def w_bst (r : Nat → Int32) (n p : Nat) : Nat := w_best r n p (ro r p 1).toNatClampNeg
theorem bst_of {r : Nat → Int32} {n p u : Nat} (hu : u ≤ 999) (e : ro r p 1 = nI u) : w_bst r n p = w_best r n p u := by unfold w_bst; rw [e, nI_clamp (by omega)]
theorem sp_X4_best_b {g : GG} {h : Hp} {Post : Option Value → Hp → Prop} {n : Nat} {r : Nat → Int32} (S : Hs h n r) (p : Int32) (hb : p < 0 ∨ nI n ≤ p) (K : Post (some (.int (-1000000001))) (hfi h 0)) : Sp g mX4_best [.ref 0, .int p] h Post := by
  show Go g mX4_best 0 [_, _] [] _ _ _
  have hv := S.1
  have hn := S.2.2.1
  have h6 := S.2.1.2.2.1
  have hq := s2
  refine ok_aload_n dX4_best_0 rfl rfl ?_
  refine ok_getR dX4_best_1 f_X4_16 (by first | exact is_lit hv (by decide) rfl | exact is_sq hv hq | exact is_row hv hq | exact is_pn hv hq (by assumption) | assumption) rfl (by first | exact rf hv rfl | exact rf_row hv hq | assumption) ?_
  refine ok_iload_n dX4_best_4 rfl rfl ?_
  refine ok_callV (M' := mX2_stands) (b' := (0, 0)) (As := [_]) (cx := 2) dX4_best_5 iX2_stands w_271 (by decide) rfl (by first | exact is_lit hv (by decide) rfl | exact is_sq hv hq | exact is_row hv hq | exact is_pn hv hq (by assumption) | assumption) rfl (Nat.le_of_ble_eq_true rfl) ⟨Nat.le_of_ble_eq_true rfl, Nat.le_of_ble_eq_true rfl⟩ (Nat.le_of_ble_eq_true rfl) rfl rfl ?_
  refine sp_X2_stands hv s2 _ ?_
  rw [h6, st_bad hb]
  refine ok_if_ne (tgt := 18) dX4_best_8 (by decide) (fun c9 => absurd c9 (fun c => c rfl)) (fun _ => ?_)
  refine ok_aload_n dX4_best_11 rfl rfl ?_
  refine ok_ldc dX4_best_12 w_253 ?_
  refine ok_callV (M' := mX4_finding) (b' := (0, 0)) (As := [_]) (cx := 4) dX4_best_14 iX4_finding w_254 (by decide) rfl (by first | exact is_lit hv (by decide) rfl | exact is_sq hv hq | exact is_row hv hq | exact is_pn hv hq (by assumption) | assumption) rfl (Nat.le_of_ble_eq_true rfl) ⟨Nat.le_of_ble_eq_true rfl, Nat.le_of_ble_eq_true rfl⟩ (Nat.le_of_ble_eq_true rfl) rfl rfl ?_
  refine sp_X4_finding hv (k := 0) (by decide) (by decide) ?_
  refine ok_ireturn dX4_best_17 rfl rfl ?_
  first | exact K | (simp only [↓reduceIte] at K; exact K)
theorem sp_X4_best {g : GG} {h : Hp} {Post : Option Value → Hp → Prop} {n : Nat} {r : Nat → Int32} (S : Hs h n r) {j : Nat} (hj : j < n) (K : ∀ h', Fr 14 h h' → Inv h' → Post (some (.int (nI (w_bst r n j)))) h') : Sp g mX4_best [.ref 0, .int (nI j)] h Post := by
  show Go g mX4_best 0 [_, _] [] _ _ _
  have hv := S.1
  have hn := S.2.2.1
  have h6 := S.2.1.2.2.1
  have hq := s2
  refine ok_aload_n dX4_best_0 rfl rfl ?_
  refine ok_getR dX4_best_1 f_X4_16 (by first | exact is_lit hv (by decide) rfl | exact is_sq hv hq | exact is_row hv hq | exact is_pn hv hq (by assumption) | assumption) rfl (by first | exact rf hv rfl | exact rf_row hv hq | assumption) ?_
  refine ok_iload_n dX4_best_4 rfl rfl ?_
  refine ok_callV (M' := mX2_stands) (b' := (0, 0)) (As := [_]) (cx := 2) dX4_best_5 iX2_stands w_271 (by decide) rfl (by first | exact is_lit hv (by decide) rfl | exact is_sq hv hq | exact is_row hv hq | exact is_pn hv hq (by assumption) | assumption) rfl (Nat.le_of_ble_eq_true rfl) ⟨Nat.le_of_ble_eq_true rfl, Nat.le_of_ble_eq_true rfl⟩ (Nat.le_of_ble_eq_true rfl) rfl rfl ?_
  refine sp_X2_stands hv s2 _ ?_
  rw [h6, st_ok hn hj]
  refine ok_if_ne (tgt := 18) dX4_best_8 (by decide) (fun _ => ?_) (fun c9 => absurd c9 (by decide))
  refine ok_aload_n dX4_best_18 rfl rfl ?_
  refine ok_iload_n dX4_best_19 rfl rfl ?_
  refine ok_callV (M' := mX4_bestThrow) (b' := (0, 0)) (As := [_]) (cx := 4) dX4_best_20 iX4_bestThrow w_463 (by decide) rfl (by first | exact is_lit hv (by decide) rfl | exact is_sq hv hq | exact is_row hv hq | exact is_pn hv hq (by assumption) | assumption) rfl (Nat.le_of_ble_eq_true rfl) ⟨Nat.le_of_ble_eq_true rfl, Nat.le_of_ble_eq_true rfl⟩ (Nat.le_of_ble_eq_true rfl) rfl rfl ?_
  obtain ⟨u, hu, eu⟩ := (S.2.2.2.2.2.2 j hj).2.1
  refine sp_X4_bestThrow S hj hu eu (fun h1 F1 hv1 => ?_)
  rw [← bst_of hu eu]
  have S1 := S.fr F1 hv1
  refine ok_ireturn dX4_best_23 rfl rfl ?_
  exact K h1 F1 hv1
theorem sp_X4_regret_b {g : GG} {h : Hp} {Post : Option Value → Hp → Prop} {n : Nat} {r : Nat → Int32} (S : Hs h n r) (p : Int32) (hb : p < 0 ∨ nI n ≤ p) (K : Post (some (.int (-1000000001))) (hfi h 0)) : Sp g mX4_regret [.ref 0, .int p] h Post := by
  show Go g mX4_regret 0 [_, _] [] _ _ _
  have hv := S.1
  have hn := S.2.2.1
  have h6 := S.2.1.2.2.1
  have hq := s2
  refine ok_aload_n dX4_regret_0 rfl rfl ?_
  refine ok_getR dX4_regret_1 f_X4_16 (by first | exact is_lit hv (by decide) rfl | exact is_sq hv hq | exact is_row hv hq | exact is_pn hv hq (by assumption) | assumption) rfl (by first | exact rf hv rfl | exact rf_row hv hq | assumption) ?_
  refine ok_iload_n dX4_regret_4 rfl rfl ?_
  refine ok_callV (M' := mX2_stands) (b' := (0, 0)) (As := [_]) (cx := 2) dX4_regret_5 iX2_stands w_271 (by decide) rfl (by first | exact is_lit hv (by decide) rfl | exact is_sq hv hq | exact is_row hv hq | exact is_pn hv hq (by assumption) | assumption) rfl (Nat.le_of_ble_eq_true rfl) ⟨Nat.le_of_ble_eq_true rfl, Nat.le_of_ble_eq_true rfl⟩ (Nat.le_of_ble_eq_true rfl) rfl rfl ?_
  refine sp_X2_stands hv s2 _ ?_
  rw [h6, st_bad hb]
  refine ok_if_ne (tgt := 18) dX4_regret_8 (by decide) (fun c9 => absurd c9 (fun c => c rfl)) (fun _ => ?_)
  refine ok_aload_n dX4_regret_11 rfl rfl ?_
  refine ok_ldc dX4_regret_12 w_253 ?_
  refine ok_callV (M' := mX4_finding) (b' := (0, 0)) (As := [_]) (cx := 4) dX4_regret_14 iX4_finding w_254 (by decide) rfl (by first | exact is_lit hv (by decide) rfl | exact is_sq hv hq | exact is_row hv hq | exact is_pn hv hq (by assumption) | assumption) rfl (Nat.le_of_ble_eq_true rfl) ⟨Nat.le_of_ble_eq_true rfl, Nat.le_of_ble_eq_true rfl⟩ (Nat.le_of_ble_eq_true rfl) rfl rfl ?_
  refine sp_X4_finding hv (k := 0) (by decide) (by decide) ?_
  refine ok_ireturn dX4_regret_17 rfl rfl ?_
  first | exact K | (simp only [↓reduceIte] at K; exact K)
theorem sp_X4_regret {g : GG} {h : Hp} {Post : Option Value → Hp → Prop} {n : Nat} {r : Nat → Int32} (S : Hs h n r) {j : Nat} (hj : j < n) (K : ∀ h', Fr 14 h h' → Inv h' → Post (some (.int (w_gain r n (nI j) (nI (w_bst r n j)) j - w_gain r n (-1) 0 j))) h') : Sp g mX4_regret [.ref 0, .int (nI j)] h Post := by
  show Go g mX4_regret 0 [_, _] [] _ _ _
  have hv := S.1
  have hn := S.2.2.1
  have h6 := S.2.1.2.2.1
  have hq := s2
  refine ok_aload_n dX4_regret_0 rfl rfl ?_
  refine ok_getR dX4_regret_1 f_X4_16 (by first | exact is_lit hv (by decide) rfl | exact is_sq hv hq | exact is_row hv hq | exact is_pn hv hq (by assumption) | assumption) rfl (by first | exact rf hv rfl | exact rf_row hv hq | assumption) ?_
  refine ok_iload_n dX4_regret_4 rfl rfl ?_
  refine ok_callV (M' := mX2_stands) (b' := (0, 0)) (As := [_]) (cx := 2) dX4_regret_5 iX2_stands w_271 (by decide) rfl (by first | exact is_lit hv (by decide) rfl | exact is_sq hv hq | exact is_row hv hq | exact is_pn hv hq (by assumption) | assumption) rfl (Nat.le_of_ble_eq_true rfl) ⟨Nat.le_of_ble_eq_true rfl, Nat.le_of_ble_eq_true rfl⟩ (Nat.le_of_ble_eq_true rfl) rfl rfl ?_
  refine sp_X2_stands hv s2 _ ?_
  rw [h6, st_ok hn hj]
  refine ok_if_ne (tgt := 18) dX4_regret_8 (by decide) (fun _ => ?_) (fun c9 => absurd c9 (by decide))
  refine ok_aload_n dX4_regret_18 rfl rfl ?_
  refine ok_iload_n dX4_regret_19 rfl rfl ?_
  refine ok_aload_n dX4_regret_20 rfl rfl ?_
  refine ok_iload_n dX4_regret_21 rfl rfl ?_
  refine ok_callV (M' := mX4_bestThrow) (b' := (0, 0)) (As := [_]) (cx := 4) dX4_regret_22 iX4_bestThrow w_463 (by decide) rfl (by first | exact is_lit hv (by decide) rfl | exact is_sq hv hq | exact is_row hv hq | exact is_pn hv hq (by assumption) | assumption) rfl (Nat.le_of_ble_eq_true rfl) ⟨Nat.le_of_ble_eq_true rfl, Nat.le_of_ble_eq_true rfl⟩ (Nat.le_of_ble_eq_true rfl) rfl rfl ?_
  obtain ⟨u, hu, eu⟩ := (S.2.2.2.2.2.2 j hj).2.1
  refine sp_X4_bestThrow S hj hu eu (fun h1 F1 hv1 => ?_)
  rw [← bst_of hu eu]
  have S1 := S.fr F1 hv1
  have hv := hv1
  refine ok_callV (M' := mX4_gainThrowing) (b' := (0, 0)) (As := [_, _]) (cx := 4) dX4_regret_25 iX4_gainThrowing w_455 (by decide) rfl (by first | exact is_lit hv (by decide) rfl | exact is_sq hv hq | exact is_row hv hq | exact is_pn hv hq (by assumption) | assumption) rfl (Nat.le_of_ble_eq_true rfl) ⟨Nat.le_of_ble_eq_true rfl, Nat.le_of_ble_eq_true rfl⟩ (Nat.le_of_ble_eq_true rfl) rfl rfl ?_
  refine sp_X4_gainThrowing S1 hj _ (fun h2 F2 hv2 => ?_)
  have S2 := S1.fr F2 hv2
  have hv := hv2
  refine ok_aload_n dX4_regret_28 rfl rfl ?_
  refine ok_iload_n dX4_regret_29 rfl rfl ?_
  refine ok_callV (M' := mX4_gainAsIs) (b' := (0, 0)) (As := [_]) (cx := 4) dX4_regret_30 iX4_gainAsIs w_421 (by decide) rfl (by first | exact is_lit hv (by decide) rfl | exact is_sq hv hq | exact is_row hv hq | exact is_pn hv hq (by assumption) | assumption) rfl (Nat.le_of_ble_eq_true rfl) ⟨Nat.le_of_ble_eq_true rfl, Nat.le_of_ble_eq_true rfl⟩ (Nat.le_of_ble_eq_true rfl) rfl rfl ?_
  refine sp_X4_gainAsIs S2 hj (fun h3 F3 hv3 => ?_)
  refine ok_isub dX4_regret_33 ?_
  refine ok_ireturn dX4_regret_34 rfl rfl ?_
  exact K h3 ((F1.tr F2).tr F3) hv3
def w_sry (r : Nat → Int32) (n : Nat) : Nat → Int32
  | 0 => 0
  | p + 1 => if w_gain r n (nI p) (nI (w_bst r n p)) p ≤ w_gain r n (-1) 0 p then w_sry r n p else w_sry r n p ||| ((1 : Int32) <<< (nI p &&& 31))
theorem lp_X4_sorry_4 {g : GG} {h0 : Hp} {Post : Option Value → Hp → Prop} {n : Nat} {r : Nat → Int32} (S0 : Hs h0 n r) (K : ∀ h', Fr 14 h0 h' → Inv h' → Post (some (.int (w_sry r n n))) h') : ∀ (k i : Nat) (h : Hp), i + k = n → Fr 14 h0 h → Inv h → Go g mX4_sorry 4 [some (.ref 0), some (.int (w_sry r n i)), some (.int (nI i))] [] h (0, 0) Post := by
  intro k
  induction k with
  | zero =>
    intro i h hik F hv
    obtain rfl : i = n := by omega
    have S := S0.fr F hv
    have h6 := S.2.1.2.2.1
    have hq := s2
    have hn := S.2.2.1
    refine ok_iload_n dX4_sorry_4 rfl rfl ?_
    refine ok_aload_n dX4_sorry_5 rfl rfl ?_
    refine ok_getR dX4_sorry_6 f_X4_16 (by first | exact is_lit hv (by decide) rfl | exact is_sq hv hq | exact is_row hv hq | exact is_pn hv hq (by assumption) | assumption) rfl (by first | exact rf hv rfl | exact rf_row hv hq | assumption) ?_
    refine ok_getI dX4_sorry_9 f_X4_53 (by first | exact is_lit hv (by decide) rfl | exact is_sq hv hq | exact is_row hv hq | exact is_pn hv hq (by assumption) | assumption) rfl ?_
    rw [h6]
    refine ok_icmp_ge (tgt := 45) dX4_sorry_12 (by decide) (fun _ => ?_) (fun c9 => absurd (nI_le (Nat.le_refl _) (by omega)) c9)
    refine ok_iload_n dX4_sorry_45 rfl rfl ?_
    refine ok_ireturn dX4_sorry_46 rfl rfl ?_
    exact K h F hv
  | succ k ih =>
    intro i h hik F hv
    have hi : i < n := by omega
    have S := S0.fr F hv
    have h6 := S.2.1.2.2.1
    have hq := s2
    have hn := S.2.2.1
    have hj := hi
    refine ok_iload_n dX4_sorry_4 rfl rfl ?_
    refine ok_aload_n dX4_sorry_5 rfl rfl ?_
    refine ok_getR dX4_sorry_6 f_X4_16 (by first | exact is_lit hv (by decide) rfl | exact is_sq hv hq | exact is_row hv hq | exact is_pn hv hq (by assumption) | assumption) rfl (by first | exact rf hv rfl | exact rf_row hv hq | assumption) ?_
    refine ok_getI dX4_sorry_9 f_X4_53 (by first | exact is_lit hv (by decide) rfl | exact is_sq hv hq | exact is_row hv hq | exact is_pn hv hq (by assumption) | assumption) rfl ?_
    rw [h6]
    refine ok_icmp_ge (tgt := 45) dX4_sorry_12 (by decide) (fun c9 => absurd c9 (nI_ge hi (by omega))) (fun _ => ?_)
    refine ok_aload_n dX4_sorry_15 rfl rfl ?_
    refine ok_iload_n dX4_sorry_16 rfl rfl ?_
    refine ok_aload_n dX4_sorry_17 rfl rfl ?_
    refine ok_iload_n dX4_sorry_18 rfl rfl ?_
    refine ok_callV (M' := mX4_bestThrow) (b' := (0, 0)) (As := [_]) (cx := 4) dX4_sorry_19 iX4_bestThrow w_463 (by decide) rfl (by first | exact is_lit hv (by decide) rfl | exact is_sq hv hq | exact is_row hv hq | exact is_pn hv hq (by assumption) | assumption) rfl (Nat.le_of_ble_eq_true rfl) ⟨Nat.le_of_ble_eq_true rfl, Nat.le_of_ble_eq_true rfl⟩ (Nat.le_of_ble_eq_true rfl) rfl rfl ?_
    obtain ⟨u, hu, eu⟩ := (S.2.2.2.2.2.2 i hi).2.1
    refine sp_X4_bestThrow S hj hu eu (fun h1 F1 hv1 => ?_)
    rw [← bst_of hu eu]
    have S1 := S.fr F1 hv1
    have hv := hv1
    refine ok_callV (M' := mX4_gainThrowing) (b' := (0, 0)) (As := [_, _]) (cx := 4) dX4_sorry_22 iX4_gainThrowing w_455 (by decide) rfl (by first | exact is_lit hv (by decide) rfl | exact is_sq hv hq | exact is_row hv hq | exact is_pn hv hq (by assumption) | assumption) rfl (Nat.le_of_ble_eq_true rfl) ⟨Nat.le_of_ble_eq_true rfl, Nat.le_of_ble_eq_true rfl⟩ (Nat.le_of_ble_eq_true rfl) rfl rfl ?_
    refine sp_X4_gainThrowing S1 hj _ (fun h2 F2 hv2 => ?_)
    have S2 := S1.fr F2 hv2
    have hv := hv2
    refine ok_aload_n dX4_sorry_25 rfl rfl ?_
    refine ok_iload_n dX4_sorry_26 rfl rfl ?_
    refine ok_callV (M' := mX4_gainAsIs) (b' := (0, 0)) (As := [_]) (cx := 4) dX4_sorry_27 iX4_gainAsIs w_421 (by decide) rfl (by first | exact is_lit hv (by decide) rfl | exact is_sq hv hq | exact is_row hv hq | exact is_pn hv hq (by assumption) | assumption) rfl (Nat.le_of_ble_eq_true rfl) ⟨Nat.le_of_ble_eq_true rfl, Nat.le_of_ble_eq_true rfl⟩ (Nat.le_of_ble_eq_true rfl) rfl rfl ?_
    refine sp_X4_gainAsIs S2 hj (fun h3 F3 hv3 => ?_)
    refine ok_icmp_le (tgt := 39) dX4_sorry_30 (by decide) (fun c_30 => ?_) (fun c_30 => ?_)
    · refine ok_iinc (v := _ + 1) (lo' := [_, _, _]) dX4_sorry_39 rfl rfl (Nat.le_of_ble_eq_true rfl) rfl rfl ?_
      refine ok_goto (tgt := 4) dX4_sorry_42 (by decide) ?_
      rw [nI_1]
      have e := ih (i + 1) h3 (by omega) (((F.tr F1).tr F2).tr F3) hv3
      rw [w_sry] at e
      first | (rw [if_pos c_30] at e; exact e) | (rw [if_neg c_30] at e; exact e)
    · refine ok_iload_n dX4_sorry_33 rfl rfl ?_
      refine ok_iconst (v := 1) dX4_sorry_34 (by decide) ?_
      refine ok_iload_n dX4_sorry_35 rfl rfl ?_
      refine ok_ishl dX4_sorry_36 ?_
      refine ok_ior dX4_sorry_37 ?_
      refine ok_istore_n (lo' := [_, _, _]) dX4_sorry_38 rfl (Nat.le_of_ble_eq_true rfl) rfl rfl ?_
      refine ok_iinc (v := _ + 1) (lo' := [_, _, _]) dX4_sorry_39 rfl rfl (Nat.le_of_ble_eq_true rfl) rfl rfl ?_
      refine ok_goto (tgt := 4) dX4_sorry_42 (by decide) ?_
      rw [nI_1]
      have e := ih (i + 1) h3 (by omega) (((F.tr F1).tr F2).tr F3) hv3
      rw [w_sry] at e
      first | (rw [if_pos c_30] at e; exact e) | (rw [if_neg c_30] at e; exact e)
theorem sp_X4_sorry {g : GG} {h : Hp} {Post : Option Value → Hp → Prop} {n : Nat} {r : Nat → Int32} (S : Hs h n r) (K : ∀ h', Fr 14 h h' → Inv h' → Post (some (.int (w_sry r n n))) h') : Sp g mX4_sorry [.ref 0] h Post := by
  show Go g mX4_sorry 0 [_, _, _] [] _ _ _
  have hv := S.1
  have hn := S.2.2.1
  have h6 := S.2.1.2.2.1
  have hq := s2
  refine ok_iconst (v := 0) dX4_sorry_0 (by decide) ?_
  refine ok_istore_n (lo' := [_, _, _]) dX4_sorry_1 rfl (Nat.le_of_ble_eq_true rfl) rfl rfl ?_
  refine ok_iconst (v := 0) dX4_sorry_2 (by decide) ?_
  refine ok_istore_n (lo' := [_, _, _]) dX4_sorry_3 rfl (Nat.le_of_ble_eq_true rfl) rfl rfl ?_
  exact lp_X4_sorry_4 S K n 0 h (by omega) Fr.rf S.1
theorem sp_X4_stand_b {g : GG} {h : Hp} {Post : Option Value → Hp → Prop} {n : Nat} {r : Nat → Int32} (S : Hs h n r) (p : Int32) (hb : p < 0 ∨ nI n ≤ p) (K : Post (some (.int (-1000000001))) (hfi h 0)) : Sp g mX4_stand [.ref 0, .int p] h Post := by
  show Go g mX4_stand 0 [_, _, _, _, _, _] [] _ _ _
  have hv := S.1
  have hn := S.2.2.1
  have h6 := S.2.1.2.2.1
  have hq := s2
  refine ok_aload_n dX4_stand_0 rfl rfl ?_
  refine ok_getR dX4_stand_1 f_X4_16 (by first | exact is_lit hv (by decide) rfl | exact is_sq hv hq | exact is_row hv hq | exact is_pn hv hq (by assumption) | assumption) rfl (by first | exact rf hv rfl | exact rf_row hv hq | assumption) ?_
  refine ok_iload_n dX4_stand_4 rfl rfl ?_
  refine ok_callV (M' := mX2_stands) (b' := (0, 0)) (As := [_]) (cx := 2) dX4_stand_5 iX2_stands w_271 (by decide) rfl (by first | exact is_lit hv (by decide) rfl | exact is_sq hv hq | exact is_row hv hq | exact is_pn hv hq (by assumption) | assumption) rfl (Nat.le_of_ble_eq_true rfl) ⟨Nat.le_of_ble_eq_true rfl, Nat.le_of_ble_eq_true rfl⟩ (Nat.le_of_ble_eq_true rfl) rfl rfl ?_
  refine sp_X2_stands hv s2 _ ?_
  rw [h6, st_bad hb]
  refine ok_if_ne (tgt := 18) dX4_stand_8 (by decide) (fun c9 => absurd c9 (fun c => c rfl)) (fun _ => ?_)
  refine ok_aload_n dX4_stand_11 rfl rfl ?_
  refine ok_ldc dX4_stand_12 w_253 ?_
  refine ok_callV (M' := mX4_finding) (b' := (0, 0)) (As := [_]) (cx := 4) dX4_stand_14 iX4_finding w_254 (by decide) rfl (by first | exact is_lit hv (by decide) rfl | exact is_sq hv hq | exact is_row hv hq | exact is_pn hv hq (by assumption) | assumption) rfl (Nat.le_of_ble_eq_true rfl) ⟨Nat.le_of_ble_eq_true rfl, Nat.le_of_ble_eq_true rfl⟩ (Nat.le_of_ble_eq_true rfl) rfl rfl ?_
  refine sp_X4_finding hv (k := 0) (by decide) (by decide) ?_
  refine ok_ireturn dX4_stand_17 rfl rfl ?_
  first | exact K | (simp only [↓reduceIte] at K; exact K)
theorem lp_X4_stand_30 {g : GG} {h0 : Hp} {Post : Option Value → Hp → Prop} {n : Nat} {r : Nat → Int32} (S0 : Hs h0 n r) {j : Nat} (hj : j < n) (K : ∀ h', Fr 14 h0 h' → Inv h' → Post (some (.int (nI (am (fun t => w_gain (w_pm r (mv j t)) n (-1) 0 t) (n - 1)).1))) h') : ∀ (k i : Nat) (h : Hp) (x5 : Option Value), i + k = n - 1 → Fr 14 h0 h → Inv h → Go g mX4_stand 30 [some (.ref 0), some (.int (nI j)), some (.int (nI (am (fun t => w_gain (w_pm r (mv j t)) n (-1) 0 t) i).1)), some (.int (am (fun t => w_gain (w_pm r (mv j t)) n (-1) 0 t) i).2), some (.int (nI (i + 1))), x5] [] h (0, 0) Post := by
  intro k
  induction k with
  | zero =>
    intro i h x5 hik F hv
    obtain rfl : i = n - 1 := by omega
    have S := S0.fr F hv
    have h6 := S.2.1.2.2.1
    have hn := S.2.2.1
    have hq := s2
    refine ok_iload dX4_stand_30 rfl ?_
    refine ok_aload_n dX4_stand_32 rfl rfl ?_
    refine ok_getR dX4_stand_33 f_X4_16 (by first | exact is_lit hv (by decide) rfl | exact is_sq hv hq | exact is_row hv hq | exact is_pn hv hq (by assumption) | assumption) rfl (by first | exact rf hv rfl | exact rf_row hv hq | assumption) ?_
    refine ok_getI dX4_stand_36 f_X4_53 (by first | exact is_lit hv (by decide) rfl | exact is_sq hv hq | exact is_row hv hq | exact is_pn hv hq (by assumption) | assumption) rfl ?_
    rw [h6]
    refine ok_icmp_ge (tgt := 69) dX4_stand_39 (by decide) (fun _ => ?_) (fun c9 => absurd (nI_le (by omega) (by omega)) c9)
    refine ok_iload_n dX4_stand_69 rfl rfl ?_
    refine ok_ireturn dX4_stand_70 rfl rfl ?_
    exact K h F hv
  | succ k ih =>
    intro i h x5 hik F hv
    have hi : i < n - 1 := by omega
    have S := S0.fr F hv
    have h6 := S.2.1.2.2.1
    have hn := S.2.2.1
    have hq := s2
    refine ok_iload dX4_stand_30 rfl ?_
    refine ok_aload_n dX4_stand_32 rfl rfl ?_
    refine ok_getR dX4_stand_33 f_X4_16 (by first | exact is_lit hv (by decide) rfl | exact is_sq hv hq | exact is_row hv hq | exact is_pn hv hq (by assumption) | assumption) rfl (by first | exact rf hv rfl | exact rf_row hv hq | assumption) ?_
    refine ok_getI dX4_stand_36 f_X4_53 (by first | exact is_lit hv (by decide) rfl | exact is_sq hv hq | exact is_row hv hq | exact is_pn hv hq (by assumption) | assumption) rfl ?_
    rw [h6]
    refine ok_icmp_ge (tgt := 69) dX4_stand_39 (by decide) (fun c9 => absurd c9 (nI_ge (by omega) (by omega))) (fun _ => ?_)
    refine ok_aload_n dX4_stand_42 rfl rfl ?_
    refine ok_iload_n dX4_stand_43 rfl rfl ?_
    refine ok_iload dX4_stand_44 rfl ?_
    refine ok_callV (M' := mX4_gainStanding) (b' := (0, 0)) (As := [_, _]) (cx := 4) dX4_stand_46 iX4_gainStanding w_480 (by decide) rfl (by first | exact is_lit hv (by decide) rfl | exact is_sq hv hq | exact is_row hv hq | exact is_pn hv hq (by assumption) | assumption) rfl (Nat.le_of_ble_eq_true rfl) ⟨Nat.le_of_ble_eq_true rfl, Nat.le_of_ble_eq_true rfl⟩ (Nat.le_of_ble_eq_true rfl) rfl rfl ?_
    refine sp_X4_gainStanding S hj (show i + 1 < n by omega) (fun h1 F1 hv1 => ?_)
    have hv := hv1
    refine ok_istore (lo' := [_, _, _, _, _, _]) dX4_stand_49 (Nat.le_of_ble_eq_true rfl) rfl rfl ?_
    refine ok_iload dX4_stand_51 rfl ?_
    refine ok_iload_n dX4_stand_53 rfl rfl ?_
    refine ok_icmp_le (tgt := 63) dX4_stand_54 (by decide) (fun c_54 => ?_) (fun c_54 => ?_)
    · refine ok_iinc (v := _ + 1) (lo' := [_, _, _, _, _, _]) dX4_stand_63 rfl rfl (Nat.le_of_ble_eq_true rfl) rfl rfl ?_
      refine ok_goto (tgt := 30) dX4_stand_66 (by decide) ?_
      rw [nI_1]
      have e := ih (i + 1) h1 (some (.int (w_gain (w_pm r (mv j (i + 1))) n (-1) 0 (i + 1)))) (by omega) (F.tr F1) hv1
      rw [am] at e
      first | (rw [if_pos c_54] at e; exact e) | (rw [if_neg c_54] at e; exact e)
    · refine ok_iload dX4_stand_57 rfl ?_
      refine ok_istore_n (lo' := [_, _, _, _, _, _]) dX4_stand_59 rfl (Nat.le_of_ble_eq_true rfl) rfl rfl ?_
      refine ok_iload dX4_stand_60 rfl ?_
      refine ok_istore_n (lo' := [_, _, _, _, _, _]) dX4_stand_62 rfl (Nat.le_of_ble_eq_true rfl) rfl rfl ?_
      refine ok_iinc (v := _ + 1) (lo' := [_, _, _, _, _, _]) dX4_stand_63 rfl rfl (Nat.le_of_ble_eq_true rfl) rfl rfl ?_
      refine ok_goto (tgt := 30) dX4_stand_66 (by decide) ?_
      rw [nI_1]
      have e := ih (i + 1) h1 (some (.int (w_gain (w_pm r (mv j (i + 1))) n (-1) 0 (i + 1)))) (by omega) (F.tr F1) hv1
      rw [am] at e
      first | (rw [if_pos c_54] at e; exact e) | (rw [if_neg c_54] at e; exact e)
theorem sp_X4_stand {g : GG} {h : Hp} {Post : Option Value → Hp → Prop} {n : Nat} {r : Nat → Int32} (S : Hs h n r) {j : Nat} (hj : j < n) (K : ∀ h', Fr 14 h h' → Inv h' → Post (some (.int (nI (am (fun t => w_gain (w_pm r (mv j t)) n (-1) 0 t) (n - 1)).1))) h') : Sp g mX4_stand [.ref 0, .int (nI j)] h Post := by
  show Go g mX4_stand 0 [_, _, _, _, _, _] [] _ _ _
  have hv := S.1
  have hn := S.2.2.1
  have h6 := S.2.1.2.2.1
  have hq := s2
  refine ok_aload_n dX4_stand_0 rfl rfl ?_
  refine ok_getR dX4_stand_1 f_X4_16 (by first | exact is_lit hv (by decide) rfl | exact is_sq hv hq | exact is_row hv hq | exact is_pn hv hq (by assumption) | assumption) rfl (by first | exact rf hv rfl | exact rf_row hv hq | assumption) ?_
  refine ok_iload_n dX4_stand_4 rfl rfl ?_
  refine ok_callV (M' := mX2_stands) (b' := (0, 0)) (As := [_]) (cx := 2) dX4_stand_5 iX2_stands w_271 (by decide) rfl (by first | exact is_lit hv (by decide) rfl | exact is_sq hv hq | exact is_row hv hq | exact is_pn hv hq (by assumption) | assumption) rfl (Nat.le_of_ble_eq_true rfl) ⟨Nat.le_of_ble_eq_true rfl, Nat.le_of_ble_eq_true rfl⟩ (Nat.le_of_ble_eq_true rfl) rfl rfl ?_
  refine sp_X2_stands hv s2 _ ?_
  rw [h6, st_ok hn hj]
  refine ok_if_ne (tgt := 18) dX4_stand_8 (by decide) (fun _ => ?_) (fun c9 => absurd c9 (by decide))
  refine ok_iconst (v := 0) dX4_stand_18 (by decide) ?_
  refine ok_istore_n (lo' := [_, _, _, _, _, _]) dX4_stand_19 rfl (Nat.le_of_ble_eq_true rfl) rfl rfl ?_
  refine ok_aload_n dX4_stand_20 rfl rfl ?_
  refine ok_iload_n dX4_stand_21 rfl rfl ?_
  refine ok_iconst (v := 0) dX4_stand_22 (by decide) ?_
  refine ok_callV (M' := mX4_gainStanding) (b' := (0, 0)) (As := [_, _]) (cx := 4) dX4_stand_23 iX4_gainStanding w_480 (by decide) rfl (by first | exact is_lit hv (by decide) rfl | exact is_sq hv hq | exact is_row hv hq | exact is_pn hv hq (by assumption) | assumption) rfl (Nat.le_of_ble_eq_true rfl) ⟨Nat.le_of_ble_eq_true rfl, Nat.le_of_ble_eq_true rfl⟩ (Nat.le_of_ble_eq_true rfl) rfl rfl ?_
  refine sp_X4_gainStanding (t := 0) S hj (by omega) (fun h1 F1 hv1 => ?_)
  have hv := hv1
  refine ok_istore_n (lo' := [_, _, _, _, _, _]) dX4_stand_26 rfl (Nat.le_of_ble_eq_true rfl) rfl rfl ?_
  refine ok_iconst (v := 1) dX4_stand_27 (by decide) ?_
  refine ok_istore (lo' := [_, _, _, _, _, _]) dX4_stand_28 (Nat.le_of_ble_eq_true rfl) rfl rfl ?_
  exact lp_X4_stand_30 S hj K (n - 1) 0 h1 _ (by omega) F1 hv1
theorem sp_X4_kind_b {g : GG} {h : Hp} {Post : Option Value → Hp → Prop} {n : Nat} {r : Nat → Int32} (S : Hs h n r) (p : Int32) (hb : p < 0 ∨ nI n ≤ p) (K : Post (some (.int (-1000000001))) (hfi h 0)) : Sp g mX4_kind [.ref 0, .int p] h Post := by
  show Go g mX4_kind 0 [_, _, _, _, _, _] [] _ _ _
  have hv := S.1
  have hn := S.2.2.1
  have h6 := S.2.1.2.2.1
  have hq := s2
  refine ok_aload_n dX4_kind_0 rfl rfl ?_
  refine ok_getR dX4_kind_1 f_X4_16 (by first | exact is_lit hv (by decide) rfl | exact is_sq hv hq | exact is_row hv hq | exact is_pn hv hq (by assumption) | assumption) rfl (by first | exact rf hv rfl | exact rf_row hv hq | assumption) ?_
  refine ok_iload_n dX4_kind_4 rfl rfl ?_
  refine ok_callV (M' := mX2_stands) (b' := (0, 0)) (As := [_]) (cx := 2) dX4_kind_5 iX2_stands w_271 (by decide) rfl (by first | exact is_lit hv (by decide) rfl | exact is_sq hv hq | exact is_row hv hq | exact is_pn hv hq (by assumption) | assumption) rfl (Nat.le_of_ble_eq_true rfl) ⟨Nat.le_of_ble_eq_true rfl, Nat.le_of_ble_eq_true rfl⟩ (Nat.le_of_ble_eq_true rfl) rfl rfl ?_
  refine sp_X2_stands hv s2 _ ?_
  rw [h6, st_bad hb]
  refine ok_if_ne (tgt := 18) dX4_kind_8 (by decide) (fun c9 => absurd c9 (fun c => c rfl)) (fun _ => ?_)
  refine ok_aload_n dX4_kind_11 rfl rfl ?_
  refine ok_ldc dX4_kind_12 w_253 ?_
  refine ok_callV (M' := mX4_finding) (b' := (0, 0)) (As := [_]) (cx := 4) dX4_kind_14 iX4_finding w_254 (by decide) rfl (by first | exact is_lit hv (by decide) rfl | exact is_sq hv hq | exact is_row hv hq | exact is_pn hv hq (by assumption) | assumption) rfl (Nat.le_of_ble_eq_true rfl) ⟨Nat.le_of_ble_eq_true rfl, Nat.le_of_ble_eq_true rfl⟩ (Nat.le_of_ble_eq_true rfl) rfl rfl ?_
  refine sp_X4_finding hv (k := 0) (by decide) (by decide) ?_
  refine ok_ireturn dX4_kind_17 rfl rfl ?_
  first | exact K | (simp only [↓reduceIte] at K; exact K)
theorem kd_nI : ∀ {k : Nat}, k < 6 → Kd (nI k)
  | 0, _ => Or.inl rfl
  | 1, _ => Or.inr (Or.inl rfl)
  | 2, _ => Or.inr (Or.inr (Or.inl rfl))
  | 3, _ => Or.inr (Or.inr (Or.inr (Or.inl rfl)))
  | 4, _ => Or.inr (Or.inr (Or.inr (Or.inr (Or.inl rfl))))
  | 5, _ => Or.inr (Or.inr (Or.inr (Or.inr (Or.inr rfl))))
  | k + 6, h => absurd h (by omega)
theorem lw_nI : ∀ {k : Nat}, k < 3 → Lw (nI k)
  | 0, _ => Or.inl rfl
  | 1, _ => Or.inr (Or.inl rfl)
  | 2, _ => Or.inr (Or.inr rfl)
  | k + 3, h => absurd h (by omega)
theorem lp_X4_kind_30 {g : GG} {h0 : Hp} {Post : Option Value → Hp → Prop} {n : Nat} {r : Nat → Int32} (S0 : Hs h0 n r) {j : Nat} (hj : j < n) (K : ∀ h', Fr 14 h0 h' → Inv h' → Post (some (.int (nI (am (fun k => w_gain (w_set r (7 + 7 * j + 0) (nI k)) n (-1) 0 j) 5).1))) h') : ∀ (k i : Nat) (h : Hp) (x5 : Option Value), i + k = 5 → Fr 14 h0 h → Inv h → Go g mX4_kind 30 [some (.ref 0), some (.int (nI j)), some (.int (nI (am (fun k => w_gain (w_set r (7 + 7 * j + 0) (nI k)) n (-1) 0 j) i).1)), some (.int (am (fun k => w_gain (w_set r (7 + 7 * j + 0) (nI k)) n (-1) 0 j) i).2), some (.int (nI (i + 1))), x5] [] h (0, 0) Post := by
  intro k
  induction k with
  | zero =>
    intro i h x5 hik F hv
    obtain rfl : i = 5 := by omega
    have S := S0.fr F hv
    refine ok_iload dX4_kind_30 rfl ?_
    refine ok_bipush (v := 6) dX4_kind_32 (by decide) ?_
    refine ok_icmp_ge (tgt := 64) dX4_kind_34 (by decide) (fun _ => ?_) (fun c9 => absurd (by decide) c9)
    refine ok_iload_n dX4_kind_64 rfl rfl ?_
    refine ok_ireturn dX4_kind_65 rfl rfl ?_
    exact K h F hv
  | succ k ih =>
    intro i h x5 hik F hv
    have hi : i < 5 := by omega
    have S := S0.fr F hv
    refine ok_iload dX4_kind_30 rfl ?_
    refine ok_bipush (v := 6) dX4_kind_32 (by decide) ?_
    refine ok_icmp_ge (tgt := 64) dX4_kind_34 (by decide) (fun c9 => absurd c9 (nI_ge (show i + 1 < 6 by omega) (by decide))) (fun _ => ?_)
    refine ok_aload_n dX4_kind_37 rfl rfl ?_
    refine ok_iload_n dX4_kind_38 rfl rfl ?_
    refine ok_iload dX4_kind_39 rfl ?_
    refine ok_callV (M' := mX4_gainBeing) (b' := (0, 0)) (As := [_, _]) (cx := 4) dX4_kind_41 iX4_gainBeing w_488 (by decide) rfl (by first | exact is_lit hv (by decide) rfl | exact is_sq hv hq | exact is_row hv hq | exact is_pn hv hq (by assumption) | assumption) rfl (Nat.le_of_ble_eq_true rfl) ⟨Nat.le_of_ble_eq_true rfl, Nat.le_of_ble_eq_true rfl⟩ (Nat.le_of_ble_eq_true rfl) rfl rfl ?_
    refine sp_X4_gainBeing S hj (kd_nI (show i + 1 < 6 by omega)) (fun h1 F1 hv1 => ?_)
    have hv := hv1
    refine ok_istore (lo' := [_, _, _, _, _, _]) dX4_kind_44 (Nat.le_of_ble_eq_true rfl) rfl rfl ?_
    refine ok_iload dX4_kind_46 rfl ?_
    refine ok_iload_n dX4_kind_48 rfl rfl ?_
    refine ok_icmp_le (tgt := 58) dX4_kind_49 (by decide) (fun c_49 => ?_) (fun c_49 => ?_)
    · refine ok_iinc (v := _ + 1) (lo' := [_, _, _, _, _, _]) dX4_kind_58 rfl rfl (Nat.le_of_ble_eq_true rfl) rfl rfl ?_
      refine ok_goto (tgt := 30) dX4_kind_61 (by decide) ?_
      rw [nI_1]
      have e := ih (i + 1) h1 (some (.int (w_gain (w_set r (7 + 7 * j + 0) (nI (i + 1))) n (-1) 0 j))) (by omega) (F.tr F1) hv1
      rw [am] at e
      first | (rw [if_pos c_49] at e; exact e) | (rw [if_neg c_49] at e; exact e)
    · refine ok_iload dX4_kind_52 rfl ?_
      refine ok_istore_n (lo' := [_, _, _, _, _, _]) dX4_kind_54 rfl (Nat.le_of_ble_eq_true rfl) rfl rfl ?_
      refine ok_iload dX4_kind_55 rfl ?_
      refine ok_istore_n (lo' := [_, _, _, _, _, _]) dX4_kind_57 rfl (Nat.le_of_ble_eq_true rfl) rfl rfl ?_
      refine ok_iinc (v := _ + 1) (lo' := [_, _, _, _, _, _]) dX4_kind_58 rfl rfl (Nat.le_of_ble_eq_true rfl) rfl rfl ?_
      refine ok_goto (tgt := 30) dX4_kind_61 (by decide) ?_
      rw [nI_1]
      have e := ih (i + 1) h1 (some (.int (w_gain (w_set r (7 + 7 * j + 0) (nI (i + 1))) n (-1) 0 j))) (by omega) (F.tr F1) hv1
      rw [am] at e
      first | (rw [if_pos c_49] at e; exact e) | (rw [if_neg c_49] at e; exact e)
theorem sp_X4_kind {g : GG} {h : Hp} {Post : Option Value → Hp → Prop} {n : Nat} {r : Nat → Int32} (S : Hs h n r) {j : Nat} (hj : j < n) (K : ∀ h', Fr 14 h h' → Inv h' → Post (some (.int (nI (am (fun k => w_gain (w_set r (7 + 7 * j + 0) (nI k)) n (-1) 0 j) 5).1))) h') : Sp g mX4_kind [.ref 0, .int (nI j)] h Post := by
  show Go g mX4_kind 0 [_, _, _, _, _, _] [] _ _ _
  have hv := S.1
  have hn := S.2.2.1
  have h6 := S.2.1.2.2.1
  have hq := s2
  refine ok_aload_n dX4_kind_0 rfl rfl ?_
  refine ok_getR dX4_kind_1 f_X4_16 (by first | exact is_lit hv (by decide) rfl | exact is_sq hv hq | exact is_row hv hq | exact is_pn hv hq (by assumption) | assumption) rfl (by first | exact rf hv rfl | exact rf_row hv hq | assumption) ?_
  refine ok_iload_n dX4_kind_4 rfl rfl ?_
  refine ok_callV (M' := mX2_stands) (b' := (0, 0)) (As := [_]) (cx := 2) dX4_kind_5 iX2_stands w_271 (by decide) rfl (by first | exact is_lit hv (by decide) rfl | exact is_sq hv hq | exact is_row hv hq | exact is_pn hv hq (by assumption) | assumption) rfl (Nat.le_of_ble_eq_true rfl) ⟨Nat.le_of_ble_eq_true rfl, Nat.le_of_ble_eq_true rfl⟩ (Nat.le_of_ble_eq_true rfl) rfl rfl ?_
  refine sp_X2_stands hv s2 _ ?_
  rw [h6, st_ok hn hj]
  refine ok_if_ne (tgt := 18) dX4_kind_8 (by decide) (fun _ => ?_) (fun c9 => absurd c9 (by decide))
  refine ok_iconst (v := 0) dX4_kind_18 (by decide) ?_
  refine ok_istore_n (lo' := [_, _, _, _, _, _]) dX4_kind_19 rfl (Nat.le_of_ble_eq_true rfl) rfl rfl ?_
  refine ok_aload_n dX4_kind_20 rfl rfl ?_
  refine ok_iload_n dX4_kind_21 rfl rfl ?_
  refine ok_iconst (v := 0) dX4_kind_22 (by decide) ?_
  refine ok_callV (M' := mX4_gainBeing) (b' := (0, 0)) (As := [_, _]) (cx := 4) dX4_kind_23 iX4_gainBeing w_488 (by decide) rfl (by first | exact is_lit hv (by decide) rfl | exact is_sq hv hq | exact is_row hv hq | exact is_pn hv hq (by assumption) | assumption) rfl (Nat.le_of_ble_eq_true rfl) ⟨Nat.le_of_ble_eq_true rfl, Nat.le_of_ble_eq_true rfl⟩ (Nat.le_of_ble_eq_true rfl) rfl rfl ?_
  refine sp_X4_gainBeing (k := nI 0) S hj (kd_nI (by decide)) (fun h1 F1 hv1 => ?_)
  have hv := hv1
  refine ok_istore_n (lo' := [_, _, _, _, _, _]) dX4_kind_26 rfl (Nat.le_of_ble_eq_true rfl) rfl rfl ?_
  refine ok_iconst (v := 1) dX4_kind_27 (by decide) ?_
  refine ok_istore (lo' := [_, _, _, _, _, _]) dX4_kind_28 (Nat.le_of_ble_eq_true rfl) rfl rfl ?_
  exact lp_X4_kind_30 S hj K 5 0 h1 _ (by omega) F1 hv1
theorem lie_1 (i : Nat) : nI i - 20 + 1 = nI (i + 1) - 20 := by
  rw [nI_succ, Int32.sub_eq_add_neg, Int32.sub_eq_add_neg, Int32.add_assoc, Int32.add_comm (-20) 1, ← Int32.add_assoc]
theorem lie_c : ∀ i, i < 41 → ¬ (20 : Int32) < nI i - 20 := by decide
theorem lp_X4_lie_13 {g : GG} {h0 : Hp} {Post : Option Value → Hp → Prop} {n : Nat} {r : Nat → Int32} (S0 : Hs h0 n r) (K : ∀ h', Fr 14 h0 h' → Inv h' → Post (some (.int (nI (am (fun i => w_sum (w_gain (w_div r 1 (nI i - 20)) n (-1) 0) n) 40).1 - 20))) h') : ∀ (k i : Nat) (h : Hp) (x4 : Option Value), i + k = 40 → Fr 14 h0 h → Inv h → Go g mX4_lie 13 [some (.ref 0), some (.int (nI (am (fun i => w_sum (w_gain (w_div r 1 (nI i - 20)) n (-1) 0) n) i).1 - 20)), some (.int (am (fun i => w_sum (w_gain (w_div r 1 (nI i - 20)) n (-1) 0) n) i).2), some (.int (nI (i + 1) - 20)), x4] [] h (0, 0) Post := by
  intro k
  induction k with
  | zero =>
    intro i h x4 hik F hv
    obtain rfl : i = 40 := by omega
    have S := S0.fr F hv
    refine ok_iload_n dX4_lie_13 rfl rfl ?_
    refine ok_bipush (v := 20) dX4_lie_14 (by decide) ?_
    refine ok_icmp_gt (tgt := 44) dX4_lie_16 (by decide) (fun _ => ?_) (fun c9 => absurd (by decide) c9)
    refine ok_iload_n dX4_lie_44 rfl rfl ?_
    refine ok_ireturn dX4_lie_45 rfl rfl ?_
    exact K h F hv
  | succ k ih =>
    intro i h x4 hik F hv
    have hi : i < 40 := by omega
    have S := S0.fr F hv
    refine ok_iload_n dX4_lie_13 rfl rfl ?_
    refine ok_bipush (v := 20) dX4_lie_14 (by decide) ?_
    refine ok_icmp_gt (tgt := 44) dX4_lie_16 (by decide) (fun c9 => absurd c9 (lie_c (i + 1) (by omega))) (fun _ => ?_)
    refine ok_aload_n dX4_lie_19 rfl rfl ?_
    refine ok_iconst (v := 1) dX4_lie_20 (by decide) ?_
    refine ok_iload_n dX4_lie_21 rfl rfl ?_
    refine ok_callV (M' := mX4_gainsHearing) (b' := (0, 0)) (As := [_, _]) (cx := 4) dX4_lie_22 iX4_gainsHearing w_496 (by decide) rfl (by first | exact is_lit hv (by decide) rfl | exact is_sq hv hq | exact is_row hv hq | exact is_pn hv hq (by assumption) | assumption) rfl (Nat.le_of_ble_eq_true rfl) ⟨Nat.le_of_ble_eq_true rfl, Nat.le_of_ble_eq_true rfl⟩ (Nat.le_of_ble_eq_true rfl) rfl rfl ?_
    refine sp_X4_gainsHearing (s := 1) S (Or.inr rfl) _ (fun h1 F1 hv1 => ?_)
    have hv := hv1
    refine ok_istore (lo' := [_, _, _, _, _]) dX4_lie_25 (Nat.le_of_ble_eq_true rfl) rfl rfl ?_
    refine ok_iload dX4_lie_27 rfl ?_
    refine ok_iload_n dX4_lie_29 rfl rfl ?_
    refine ok_icmp_le (tgt := 38) dX4_lie_30 (by decide) (fun c_30 => ?_) (fun c_30 => ?_)
    · refine ok_iinc (v := _ + 1) (lo' := [_, _, _, _, _]) dX4_lie_38 rfl rfl (Nat.le_of_ble_eq_true rfl) rfl rfl ?_
      refine ok_goto (tgt := 13) dX4_lie_41 (by decide) ?_
      rw [lie_1]
      have e := ih (i + 1) h1 (some (.int (w_sum (w_gain (w_div r 1 (nI (i + 1) - 20)) n (-1) 0) n))) (by omega) (F.tr F1) hv1
      rw [am] at e
      first | (rw [if_pos c_30] at e; exact e) | (rw [if_neg c_30] at e; exact e)
    · refine ok_iload dX4_lie_33 rfl ?_
      refine ok_istore_n (lo' := [_, _, _, _, _]) dX4_lie_35 rfl (Nat.le_of_ble_eq_true rfl) rfl rfl ?_
      refine ok_iload_n dX4_lie_36 rfl rfl ?_
      refine ok_istore_n (lo' := [_, _, _, _, _]) dX4_lie_37 rfl (Nat.le_of_ble_eq_true rfl) rfl rfl ?_
      refine ok_iinc (v := _ + 1) (lo' := [_, _, _, _, _]) dX4_lie_38 rfl rfl (Nat.le_of_ble_eq_true rfl) rfl rfl ?_
      refine ok_goto (tgt := 13) dX4_lie_41 (by decide) ?_
      rw [lie_1]
      have e := ih (i + 1) h1 (some (.int (w_sum (w_gain (w_div r 1 (nI (i + 1) - 20)) n (-1) 0) n))) (by omega) (F.tr F1) hv1
      rw [am] at e
      first | (rw [if_pos c_30] at e; exact e) | (rw [if_neg c_30] at e; exact e)
theorem sp_X4_lie {g : GG} {h : Hp} {Post : Option Value → Hp → Prop} {n : Nat} {r : Nat → Int32} (S : Hs h n r) (K : ∀ h', Fr 14 h h' → Inv h' → Post (some (.int (nI (am (fun i => w_sum (w_gain (w_div r 1 (nI i - 20)) n (-1) 0) n) 40).1 - 20))) h') : Sp g mX4_lie [.ref 0] h Post := by
  show Go g mX4_lie 0 [_, _, _, _, _] [] _ _ _
  have hv := S.1
  have hn := S.2.2.1
  have h6 := S.2.1.2.2.1
  have hq := s2
  refine ok_bipush (v := -20) dX4_lie_0 (by decide) ?_
  refine ok_istore_n (lo' := [_, _, _, _, _]) dX4_lie_2 rfl (Nat.le_of_ble_eq_true rfl) rfl rfl ?_
  refine ok_aload_n dX4_lie_3 rfl rfl ?_
  refine ok_iconst (v := 1) dX4_lie_4 (by decide) ?_
  refine ok_iload_n dX4_lie_5 rfl rfl ?_
  refine ok_callV (M' := mX4_gainsHearing) (b' := (0, 0)) (As := [_, _]) (cx := 4) dX4_lie_6 iX4_gainsHearing w_496 (by decide) rfl (by first | exact is_lit hv (by decide) rfl | exact is_sq hv hq | exact is_row hv hq | exact is_pn hv hq (by assumption) | assumption) rfl (Nat.le_of_ble_eq_true rfl) ⟨Nat.le_of_ble_eq_true rfl, Nat.le_of_ble_eq_true rfl⟩ (Nat.le_of_ble_eq_true rfl) rfl rfl ?_
  refine sp_X4_gainsHearing (s := 1) S (Or.inr rfl) _ (fun h1 F1 hv1 => ?_)
  have hv := hv1
  refine ok_istore_n (lo' := [_, _, _, _, _]) dX4_lie_9 rfl (Nat.le_of_ble_eq_true rfl) rfl rfl ?_
  refine ok_bipush (v := -19) dX4_lie_10 (by decide) ?_
  refine ok_istore_n (lo' := [_, _, _, _, _]) dX4_lie_12 rfl (Nat.le_of_ble_eq_true rfl) rfl rfl ?_
  exact lp_X4_lie_13 S K 40 0 h1 _ (by omega) F1 hv1
theorem sp_X4_word {g : GG} {h : Hp} {Post : Option Value → Hp → Prop} {n : Nat} {r : Nat → Int32} (S : Hs h n r) (K : ∀ h', Fr 14 h h' → Inv h' → Post (some (.int (w_sum (w_gain (w_div r 1 0) n (-1) 0) n - w_sum (w_gain (w_div r 0 0) n (-1) 0) n))) h') : Sp g mX4_word [.ref 0] h Post := by
  show Go g mX4_word 0 [_] [] _ _ _
  have hv := S.1
  have hn := S.2.2.1
  have h6 := S.2.1.2.2.1
  have hq := s2
  refine ok_aload_n dX4_word_0 rfl rfl ?_
  refine ok_iconst (v := 1) dX4_word_1 (by decide) ?_
  refine ok_iconst (v := 0) dX4_word_2 (by decide) ?_
  refine ok_callV (M' := mX4_gainsHearing) (b' := (0, 0)) (As := [_, _]) (cx := 4) dX4_word_3 iX4_gainsHearing w_496 (by decide) rfl (by first | exact is_lit hv (by decide) rfl | exact is_sq hv hq | exact is_row hv hq | exact is_pn hv hq (by assumption) | assumption) rfl (Nat.le_of_ble_eq_true rfl) ⟨Nat.le_of_ble_eq_true rfl, Nat.le_of_ble_eq_true rfl⟩ (Nat.le_of_ble_eq_true rfl) rfl rfl ?_
  refine sp_X4_gainsHearing (s := 1) S (Or.inr rfl) _ (fun h1 F1 hv1 => ?_)
  have hv := hv1
  have S1 := S.fr F1 hv1
  refine ok_aload_n dX4_word_6 rfl rfl ?_
  refine ok_iconst (v := 0) dX4_word_7 (by decide) ?_
  refine ok_iconst (v := 0) dX4_word_8 (by decide) ?_
  refine ok_callV (M' := mX4_gainsHearing) (b' := (0, 0)) (As := [_, _]) (cx := 4) dX4_word_9 iX4_gainsHearing w_496 (by decide) rfl (by first | exact is_lit hv (by decide) rfl | exact is_sq hv hq | exact is_row hv hq | exact is_pn hv hq (by assumption) | assumption) rfl (Nat.le_of_ble_eq_true rfl) ⟨Nat.le_of_ble_eq_true rfl, Nat.le_of_ble_eq_true rfl⟩ (Nat.le_of_ble_eq_true rfl) rfl rfl ?_
  refine sp_X4_gainsHearing (s := 0) S1 (Or.inl rfl) _ (fun h2 F2 hv2 => ?_)
  refine ok_isub dX4_word_12 ?_
  refine ok_ireturn dX4_word_13 rfl rfl ?_
  exact K h2 (F1.tr F2) hv2
theorem lp_X4_fair_10 {g : GG} {h0 : Hp} {Post : Option Value → Hp → Prop} {n : Nat} {r : Nat → Int32} (S0 : Hs h0 n r) (K : ∀ h', Fr 14 h0 h' → Inv h' → Post (some (.int (nI (am (fun l => w_each (w_set r 2 (nI l)) n) 2).1))) h') : ∀ (k i : Nat) (h : Hp) (x4 : Option Value), i + k = 2 → Fr 14 h0 h → Inv h → Go g mX4_fair 10 [some (.ref 0), some (.int (nI (am (fun l => w_each (w_set r 2 (nI l)) n) i).1)), some (.int (am (fun l => w_each (w_set r 2 (nI l)) n) i).2), some (.int (nI (i + 1))), x4] [] h (0, 0) Post := by
  intro k
  induction k with
  | zero =>
    intro i h x4 hik F hv
    obtain rfl : i = 2 := by omega
    have S := S0.fr F hv
    refine ok_iload_n dX4_fair_10 rfl rfl ?_
    refine ok_iconst (v := 2) dX4_fair_11 (by decide) ?_
    refine ok_icmp_gt (tgt := 39) dX4_fair_12 (by decide) (fun _ => ?_) (fun c9 => absurd (by decide) c9)
    refine ok_iload_n dX4_fair_39 rfl rfl ?_
    refine ok_ireturn dX4_fair_40 rfl rfl ?_
    exact K h F hv
  | succ k ih =>
    intro i h x4 hik F hv
    have hi : i < 2 := by omega
    have S := S0.fr F hv
    refine ok_iload_n dX4_fair_10 rfl rfl ?_
    refine ok_iconst (v := 2) dX4_fair_11 (by decide) ?_
    refine ok_icmp_gt (tgt := 39) dX4_fair_12 (by decide) (fun c9 => absurd c9 (nI_nlt (a := 2) (b := i + 1) (by omega) (by decide))) (fun _ => ?_)
    refine ok_aload_n dX4_fair_15 rfl rfl ?_
    refine ok_iload_n dX4_fair_16 rfl rfl ?_
    refine ok_callV (M' := mX4_pailsForCoins) (b' := (0, 0)) (As := [_]) (cx := 4) dX4_fair_17 iX4_pailsForCoins w_508 (by decide) rfl (by first | exact is_lit hv (by decide) rfl | exact is_sq hv hq | exact is_row hv hq | exact is_pn hv hq (by assumption) | assumption) rfl (Nat.le_of_ble_eq_true rfl) ⟨Nat.le_of_ble_eq_true rfl, Nat.le_of_ble_eq_true rfl⟩ (Nat.le_of_ble_eq_true rfl) rfl rfl ?_
    refine sp_X4_pailsForCoins S (lw_nI (show i + 1 < 3 by omega)) (fun h1 F1 hv1 => ?_)
    have hv := hv1
    refine ok_istore (lo' := [_, _, _, _, _]) dX4_fair_20 (Nat.le_of_ble_eq_true rfl) rfl rfl ?_
    refine ok_iload dX4_fair_22 rfl ?_
    refine ok_iload_n dX4_fair_24 rfl rfl ?_
    refine ok_icmp_le (tgt := 33) dX4_fair_25 (by decide) (fun c_25 => ?_) (fun c_25 => ?_)
    · refine ok_iinc (v := _ + 1) (lo' := [_, _, _, _, _]) dX4_fair_33 rfl rfl (Nat.le_of_ble_eq_true rfl) rfl rfl ?_
      refine ok_goto (tgt := 10) dX4_fair_36 (by decide) ?_
      rw [nI_1]
      have e := ih (i + 1) h1 (some (.int (w_each (w_set r 2 (nI (i + 1))) n))) (by omega) (F.tr F1) hv1
      rw [am] at e
      first | (rw [if_pos c_25] at e; exact e) | (rw [if_neg c_25] at e; exact e)
    · refine ok_iload dX4_fair_28 rfl ?_
      refine ok_istore_n (lo' := [_, _, _, _, _]) dX4_fair_30 rfl (Nat.le_of_ble_eq_true rfl) rfl rfl ?_
      refine ok_iload_n dX4_fair_31 rfl rfl ?_
      refine ok_istore_n (lo' := [_, _, _, _, _]) dX4_fair_32 rfl (Nat.le_of_ble_eq_true rfl) rfl rfl ?_
      refine ok_iinc (v := _ + 1) (lo' := [_, _, _, _, _]) dX4_fair_33 rfl rfl (Nat.le_of_ble_eq_true rfl) rfl rfl ?_
      refine ok_goto (tgt := 10) dX4_fair_36 (by decide) ?_
      rw [nI_1]
      have e := ih (i + 1) h1 (some (.int (w_each (w_set r 2 (nI (i + 1))) n))) (by omega) (F.tr F1) hv1
      rw [am] at e
      first | (rw [if_pos c_25] at e; exact e) | (rw [if_neg c_25] at e; exact e)
theorem sp_X4_fair {g : GG} {h : Hp} {Post : Option Value → Hp → Prop} {n : Nat} {r : Nat → Int32} (S : Hs h n r) (K : ∀ h', Fr 14 h h' → Inv h' → Post (some (.int (nI (am (fun l => w_each (w_set r 2 (nI l)) n) 2).1))) h') : Sp g mX4_fair [.ref 0] h Post := by
  show Go g mX4_fair 0 [_, _, _, _, _] [] _ _ _
  have hv := S.1
  have hn := S.2.2.1
  have h6 := S.2.1.2.2.1
  have hq := s2
  refine ok_iconst (v := 0) dX4_fair_0 (by decide) ?_
  refine ok_istore_n (lo' := [_, _, _, _, _]) dX4_fair_1 rfl (Nat.le_of_ble_eq_true rfl) rfl rfl ?_
  refine ok_aload_n dX4_fair_2 rfl rfl ?_
  refine ok_iconst (v := 0) dX4_fair_3 (by decide) ?_
  refine ok_callV (M' := mX4_pailsForCoins) (b' := (0, 0)) (As := [_]) (cx := 4) dX4_fair_4 iX4_pailsForCoins w_508 (by decide) rfl (by first | exact is_lit hv (by decide) rfl | exact is_sq hv hq | exact is_row hv hq | exact is_pn hv hq (by assumption) | assumption) rfl (Nat.le_of_ble_eq_true rfl) ⟨Nat.le_of_ble_eq_true rfl, Nat.le_of_ble_eq_true rfl⟩ (Nat.le_of_ble_eq_true rfl) rfl rfl ?_
  refine sp_X4_pailsForCoins (l := nI 0) S (lw_nI (by decide)) (fun h1 F1 hv1 => ?_)
  have hv := hv1
  refine ok_istore_n (lo' := [_, _, _, _, _]) dX4_fair_7 rfl (Nat.le_of_ble_eq_true rfl) rfl rfl ?_
  refine ok_iconst (v := 1) dX4_fair_8 (by decide) ?_
  refine ok_istore_n (lo' := [_, _, _, _, _]) dX4_fair_9 rfl (Nat.le_of_ble_eq_true rfl) rfl rfl ?_
  exact lp_X4_fair_10 S K 2 0 h1 _ (by omega) F1 hv1
theorem shl_n : ∀ n, n ≤ 10 → (1 : Int32) <<< (nI n &&& 31) = nI (2 ^ n) := by decide
theorem pow_le {n m : Nat} (h : n ≤ m) : 2 ^ n ≤ 2 ^ m := Nat.pow_le_pow_right (by decide) h
noncomputable def w_cnt (r : Nat → Int32) (n : Nat) : Nat → Int32
  | 0 => 0
  | b + 1 => if w_rst r n b = 0 then w_cnt r n b else w_cnt r n b + 1
theorem sp_X4_rests_s {g : GG} {h : Hp} {Post : Option Value → Hp → Prop} {n : Nat} {r : Nat → Int32} (S : Hs h n r) (h8 : 8 < n) (K : Post (some (.int (-1000000007))) (hfi h 6)) : Sp g mX4_rests [.ref 0] h Post := by
  show Go g mX4_rests 0 [_, _, _, _] [] _ _ _
  have hv := S.1
  have hn := S.2.2.1
  have h6 := S.2.1.2.2.1
  have hq := s2
  refine ok_aload_n dX4_rests_0 rfl rfl ?_
  refine ok_getR dX4_rests_1 f_X4_16 (by first | exact is_lit hv (by decide) rfl | exact is_sq hv hq | exact is_row hv hq | exact is_pn hv hq (by assumption) | assumption) rfl (by first | exact rf hv rfl | exact rf_row hv hq | assumption) ?_
  refine ok_getI dX4_rests_4 f_X4_53 (by first | exact is_lit hv (by decide) rfl | exact is_sq hv hq | exact is_row hv hq | exact is_pn hv hq (by assumption) | assumption) rfl ?_
  refine ok_bipush (v := 8) dX4_rests_7 (by decide) ?_
  rw [h6]
  refine ok_icmp_le (tgt := 19) dX4_rests_9 (by decide) (fun c9 => absurd c9 (nI_ge h8 (by omega))) (fun _ => ?_)
  refine ok_aload_n dX4_rests_12 rfl rfl ?_
  refine ok_ldc dX4_rests_13 w_520 ?_
  refine ok_callV (M' := mX4_finding) (b' := (0, 0)) (As := [_]) (cx := 4) dX4_rests_15 iX4_finding w_254 (by decide) rfl (by first | exact is_lit hv (by decide) rfl | exact is_sq hv hq | exact is_row hv hq | exact is_pn hv hq (by assumption) | assumption) rfl (Nat.le_of_ble_eq_true rfl) ⟨Nat.le_of_ble_eq_true rfl, Nat.le_of_ble_eq_true rfl⟩ (Nat.le_of_ble_eq_true rfl) rfl rfl ?_
  refine sp_X4_finding hv (k := 6) (by decide) (by decide) ?_
  refine ok_ireturn dX4_rests_18 rfl rfl ?_
  first | exact K | (simp only [↓reduceIte] at K; exact K)
theorem sp_X4_rest_s {g : GG} {h : Hp} {Post : Option Value → Hp → Prop} {n : Nat} {r : Nat → Int32} (S : Hs h n r) (h8 : 8 < n) (K : Post (some (.int (-1000000007))) (hfi h 6)) : Sp g mX4_rest [.ref 0] h Post := by
  show Go g mX4_rest 0 [_, _, _] [] _ _ _
  have hv := S.1
  have hn := S.2.2.1
  have h6 := S.2.1.2.2.1
  have hq := s2
  refine ok_aload_n dX4_rest_0 rfl rfl ?_
  refine ok_getR dX4_rest_1 f_X4_16 (by first | exact is_lit hv (by decide) rfl | exact is_sq hv hq | exact is_row hv hq | exact is_pn hv hq (by assumption) | assumption) rfl (by first | exact rf hv rfl | exact rf_row hv hq | assumption) ?_
  refine ok_getI dX4_rest_4 f_X4_53 (by first | exact is_lit hv (by decide) rfl | exact is_sq hv hq | exact is_row hv hq | exact is_pn hv hq (by assumption) | assumption) rfl ?_
  refine ok_bipush (v := 8) dX4_rest_7 (by decide) ?_
  rw [h6]
  refine ok_icmp_le (tgt := 19) dX4_rest_9 (by decide) (fun c9 => absurd c9 (nI_ge h8 (by omega))) (fun _ => ?_)
  refine ok_aload_n dX4_rest_12 rfl rfl ?_
  refine ok_ldc dX4_rest_13 w_520 ?_
  refine ok_callV (M' := mX4_finding) (b' := (0, 0)) (As := [_]) (cx := 4) dX4_rest_15 iX4_finding w_254 (by decide) rfl (by first | exact is_lit hv (by decide) rfl | exact is_sq hv hq | exact is_row hv hq | exact is_pn hv hq (by assumption) | assumption) rfl (Nat.le_of_ble_eq_true rfl) ⟨Nat.le_of_ble_eq_true rfl, Nat.le_of_ble_eq_true rfl⟩ (Nat.le_of_ble_eq_true rfl) rfl rfl ?_
  refine sp_X4_finding hv (k := 6) (by decide) (by decide) ?_
  refine ok_ireturn dX4_rest_18 rfl rfl ?_
  first | exact K | (simp only [↓reduceIte] at K; exact K)
theorem lp_X4_rests_33 {g : GG} {h : Hp} {Post : Option Value → Hp → Prop} {n : Nat} {r : Nat → Int32} (S : Hs h n r) (h8 : n ≤ 8) (K : Post (some (.int (w_cnt r n (2 ^ n)))) h) : ∀ (k i : Nat), i + k = 2 ^ n → Go g mX4_rests 33 [some (.ref 0), some (.int (w_cnt r n i)), some (.int (nI (2 ^ n))), some (.int (nI i))] [] h (0, 0) Post := by
  intro k
  induction k with
  | zero =>
    intro i  hik 
    obtain rfl : i = 2 ^ n := by omega
    have hp2 : 2 ^ n ≤ 2 ^ 8 := pow_le h8
    refine ok_iload_n dX4_rests_33 rfl rfl ?_
    refine ok_iload_n dX4_rests_34 rfl rfl ?_
    refine ok_icmp_ge (tgt := 55) dX4_rests_35 (by decide) (fun _ => ?_) (fun c9 => absurd (nI_le (Nat.le_refl _) (by omega)) c9)
    refine ok_iload_n dX4_rests_55 rfl rfl ?_
    refine ok_ireturn dX4_rests_56 rfl rfl ?_
    first | exact K | (simp only [↓reduceIte] at K; exact K)
  | succ k ih =>
    intro i  hik 
    have hi : i < 2 ^ n := by omega
    have hp2 : 2 ^ n ≤ 2 ^ 8 := pow_le h8
    have hv := S.1
    refine ok_iload_n dX4_rests_33 rfl rfl ?_
    refine ok_iload_n dX4_rests_34 rfl rfl ?_
    refine ok_icmp_ge (tgt := 55) dX4_rests_35 (by decide) (fun c9 => absurd c9 (nI_ge hi (by omega))) (fun _ => ?_)
    refine ok_aload_n dX4_rests_38 rfl rfl ?_
    refine ok_iload_n dX4_rests_39 rfl rfl ?_
    refine ok_callV (M' := mX4_isAtRest) (b' := (0, 0)) (As := [_]) (cx := 4) dX4_rests_40 iX4_isAtRest w_521 (by decide) rfl (by first | exact is_lit hv (by decide) rfl | exact is_sq hv hq | exact is_row hv hq | exact is_pn hv hq (by assumption) | assumption) rfl (Nat.le_of_ble_eq_true rfl) ⟨Nat.le_of_ble_eq_true rfl, Nat.le_of_ble_eq_true rfl⟩ (Nat.le_of_ble_eq_true rfl) rfl rfl ?_
    refine sp_X4_isAtRest S (show i < 1024 by omega) ?_
    refine ok_if_eq (tgt := 49) dX4_rests_43 (by decide) (fun c_43 => ?_) (fun c_43 => ?_)
    · refine ok_iinc (v := _ + 1) (lo' := [_, _, _, _]) dX4_rests_49 rfl rfl (Nat.le_of_ble_eq_true rfl) rfl rfl ?_
      refine ok_goto (tgt := 33) dX4_rests_52 (by decide) ?_
      rw [nI_1]
      have e := ih (i + 1) (by omega)
      rw [w_cnt] at e
      first | (rw [if_pos c_43] at e; exact e) | (rw [if_neg c_43] at e; exact e)
    · refine ok_iinc (v := _ + 1) (lo' := [_, _, _, _]) dX4_rests_46 rfl rfl (Nat.le_of_ble_eq_true rfl) rfl rfl ?_
      refine ok_iinc (v := _ + 1) (lo' := [_, _, _, _]) dX4_rests_49 rfl rfl (Nat.le_of_ble_eq_true rfl) rfl rfl ?_
      refine ok_goto (tgt := 33) dX4_rests_52 (by decide) ?_
      rw [nI_1]
      have e := ih (i + 1) (by omega)
      rw [w_cnt] at e
      first | (rw [if_pos c_43] at e; exact e) | (rw [if_neg c_43] at e; exact e)
theorem sp_X4_rests {g : GG} {h : Hp} {Post : Option Value → Hp → Prop} {n : Nat} {r : Nat → Int32} (S : Hs h n r) (h8 : n ≤ 8) (K : Post (some (.int (w_cnt r n (2 ^ n)))) h) : Sp g mX4_rests [.ref 0] h Post := by
  show Go g mX4_rests 0 [_, _, _, _] [] _ _ _
  have hv := S.1
  have hn := S.2.2.1
  have h6 := S.2.1.2.2.1
  have hq := s2
  refine ok_aload_n dX4_rests_0 rfl rfl ?_
  refine ok_getR dX4_rests_1 f_X4_16 (by first | exact is_lit hv (by decide) rfl | exact is_sq hv hq | exact is_row hv hq | exact is_pn hv hq (by assumption) | assumption) rfl (by first | exact rf hv rfl | exact rf_row hv hq | assumption) ?_
  refine ok_getI dX4_rests_4 f_X4_53 (by first | exact is_lit hv (by decide) rfl | exact is_sq hv hq | exact is_row hv hq | exact is_pn hv hq (by assumption) | assumption) rfl ?_
  refine ok_bipush (v := 8) dX4_rests_7 (by decide) ?_
  rw [h6]
  refine ok_icmp_le (tgt := 19) dX4_rests_9 (by decide) (fun _ => ?_) (fun c9 => absurd (nI_le h8 (by omega)) c9)
  refine ok_iconst (v := 0) dX4_rests_19 (by decide) ?_
  refine ok_istore_n (lo' := [_, _, _, _]) dX4_rests_20 rfl (Nat.le_of_ble_eq_true rfl) rfl rfl ?_
  refine ok_iconst (v := 1) dX4_rests_21 (by decide) ?_
  refine ok_aload_n dX4_rests_22 rfl rfl ?_
  refine ok_getR dX4_rests_23 f_X4_16 (by first | exact is_lit hv (by decide) rfl | exact is_sq hv hq | exact is_row hv hq | exact is_pn hv hq (by assumption) | assumption) rfl (by first | exact rf hv rfl | exact rf_row hv hq | assumption) ?_
  refine ok_getI dX4_rests_26 f_X4_53 (by first | exact is_lit hv (by decide) rfl | exact is_sq hv hq | exact is_row hv hq | exact is_pn hv hq (by assumption) | assumption) rfl ?_
  rw [h6]
  refine ok_ishl dX4_rests_29 ?_
  rw [shl_n n hn]
  refine ok_istore_n (lo' := [_, _, _, _]) dX4_rests_30 rfl (Nat.le_of_ble_eq_true rfl) rfl rfl ?_
  refine ok_iconst (v := 0) dX4_rests_31 (by decide) ?_
  refine ok_istore_n (lo' := [_, _, _, _]) dX4_rests_32 rfl (Nat.le_of_ble_eq_true rfl) rfl rfl ?_
  exact lp_X4_rests_33 S h8 K (2 ^ n) 0 (by omega)
theorem lp_X4_rest_31 {g : GG} {h : Hp} {Post : Option Value → Hp → Prop} {n : Nat} {r : Nat → Int32} (S : Hs h n r) (h8 : n ≤ 8) {m : Nat} (hm : m < 2 ^ n) (he : ¬ w_rst r n m = 0) (hne : ∀ b, b < m → w_rst r n b = 0) (K : Post (some (.int (nI m))) h) : ∀ (k i : Nat), i + k = m → Go g mX4_rest 31 [some (.ref 0), some (.int (nI (2 ^ n))), some (.int (nI i))] [] h (0, 0) Post := by
  intro k
  induction k with
  | zero =>
    intro i  hik 
    obtain rfl : i = m := by omega
    have hp2 : 2 ^ n ≤ 2 ^ 8 := pow_le h8
    have hv := S.1
    refine ok_iload_n dX4_rest_31 rfl rfl ?_
    refine ok_iload_n dX4_rest_32 rfl rfl ?_
    refine ok_icmp_ge (tgt := 52) dX4_rest_33 (by decide) (fun c9 => absurd c9 (nI_ge hm (by omega))) (fun _ => ?_)
    refine ok_aload_n dX4_rest_36 rfl rfl ?_
    refine ok_iload_n dX4_rest_37 rfl rfl ?_
    refine ok_callV (M' := mX4_isAtRest) (b' := (0, 0)) (As := [_]) (cx := 4) dX4_rest_38 iX4_isAtRest w_521 (by decide) rfl (by first | exact is_lit hv (by decide) rfl | exact is_sq hv hq | exact is_row hv hq | exact is_pn hv hq (by assumption) | assumption) rfl (Nat.le_of_ble_eq_true rfl) ⟨Nat.le_of_ble_eq_true rfl, Nat.le_of_ble_eq_true rfl⟩ (Nat.le_of_ble_eq_true rfl) rfl rfl ?_
    refine sp_X4_isAtRest S (show i < 1024 by omega) ?_
    refine ok_if_eq (tgt := 46) dX4_rest_41 (by decide) (fun c9 => absurd c9 he) (fun _ => ?_)
    refine ok_iload_n dX4_rest_44 rfl rfl ?_
    refine ok_ireturn dX4_rest_45 rfl rfl ?_
    first | exact K | (simp only [↓reduceIte] at K; exact K)
  | succ k ih =>
    intro i  hik 
    have hi : i < m := by omega
    have hp2 : 2 ^ n ≤ 2 ^ 8 := pow_le h8
    have hv := S.1
    refine ok_iload_n dX4_rest_31 rfl rfl ?_
    refine ok_iload_n dX4_rest_32 rfl rfl ?_
    refine ok_icmp_ge (tgt := 52) dX4_rest_33 (by decide) (fun c9 => absurd c9 (nI_ge (by omega) (by omega))) (fun _ => ?_)
    refine ok_aload_n dX4_rest_36 rfl rfl ?_
    refine ok_iload_n dX4_rest_37 rfl rfl ?_
    refine ok_callV (M' := mX4_isAtRest) (b' := (0, 0)) (As := [_]) (cx := 4) dX4_rest_38 iX4_isAtRest w_521 (by decide) rfl (by first | exact is_lit hv (by decide) rfl | exact is_sq hv hq | exact is_row hv hq | exact is_pn hv hq (by assumption) | assumption) rfl (Nat.le_of_ble_eq_true rfl) ⟨Nat.le_of_ble_eq_true rfl, Nat.le_of_ble_eq_true rfl⟩ (Nat.le_of_ble_eq_true rfl) rfl rfl ?_
    refine sp_X4_isAtRest S (show i < 1024 by omega) ?_
    refine ok_if_eq (tgt := 46) dX4_rest_41 (by decide) (fun _ => ?_) (fun c9 => absurd (hne i hi) c9)
    refine ok_iinc (v := _ + 1) (lo' := [_, _, _]) dX4_rest_46 rfl rfl (Nat.le_of_ble_eq_true rfl) rfl rfl ?_
    refine ok_goto (tgt := 31) dX4_rest_49 (by decide) ?_
    rw [nI_1]
    exact ih (i + 1) (by omega)
theorem lp_X4_rest_31n {g : GG} {h : Hp} {Post : Option Value → Hp → Prop} {n : Nat} {r : Nat → Int32} (S : Hs h n r) (h8 : n ≤ 8) (hne : ∀ b, b < 2 ^ n → w_rst r n b = 0) (K : Post (some (.int (-1000000004))) (hfi h 3)) : ∀ (k i : Nat), i + k = 2 ^ n → Go g mX4_rest 31 [some (.ref 0), some (.int (nI (2 ^ n))), some (.int (nI i))] [] h (0, 0) Post := by
  intro k
  induction k with
  | zero =>
    intro i  hik 
    obtain rfl : i = 2 ^ n := by omega
    have hp2 : 2 ^ n ≤ 2 ^ 8 := pow_le h8
    have hv := S.1
    refine ok_iload_n dX4_rest_31 rfl rfl ?_
    refine ok_iload_n dX4_rest_32 rfl rfl ?_
    refine ok_icmp_ge (tgt := 52) dX4_rest_33 (by decide) (fun _ => ?_) (fun c9 => absurd (nI_le (Nat.le_refl _) (by omega)) c9)
    refine ok_aload_n dX4_rest_52 rfl rfl ?_
    refine ok_ldc dX4_rest_53 w_450 ?_
    refine ok_callV (M' := mX4_finding) (b' := (0, 0)) (As := [_]) (cx := 4) dX4_rest_55 iX4_finding w_254 (by decide) rfl (by first | exact is_lit hv (by decide) rfl | exact is_sq hv hq | exact is_row hv hq | exact is_pn hv hq (by assumption) | assumption) rfl (Nat.le_of_ble_eq_true rfl) ⟨Nat.le_of_ble_eq_true rfl, Nat.le_of_ble_eq_true rfl⟩ (Nat.le_of_ble_eq_true rfl) rfl rfl ?_
    refine sp_X4_finding hv (k := 3) (by decide) (by decide) ?_
    refine ok_ireturn dX4_rest_58 rfl rfl ?_
    first | exact K | (simp only [↓reduceIte] at K; exact K)
  | succ k ih =>
    intro i  hik 
    have hi : i < 2 ^ n := by omega
    have hp2 : 2 ^ n ≤ 2 ^ 8 := pow_le h8
    have hv := S.1
    refine ok_iload_n dX4_rest_31 rfl rfl ?_
    refine ok_iload_n dX4_rest_32 rfl rfl ?_
    refine ok_icmp_ge (tgt := 52) dX4_rest_33 (by decide) (fun c9 => absurd c9 (nI_ge (by omega) (by omega))) (fun _ => ?_)
    refine ok_aload_n dX4_rest_36 rfl rfl ?_
    refine ok_iload_n dX4_rest_37 rfl rfl ?_
    refine ok_callV (M' := mX4_isAtRest) (b' := (0, 0)) (As := [_]) (cx := 4) dX4_rest_38 iX4_isAtRest w_521 (by decide) rfl (by first | exact is_lit hv (by decide) rfl | exact is_sq hv hq | exact is_row hv hq | exact is_pn hv hq (by assumption) | assumption) rfl (Nat.le_of_ble_eq_true rfl) ⟨Nat.le_of_ble_eq_true rfl, Nat.le_of_ble_eq_true rfl⟩ (Nat.le_of_ble_eq_true rfl) rfl rfl ?_
    refine sp_X4_isAtRest S (show i < 1024 by omega) ?_
    refine ok_if_eq (tgt := 46) dX4_rest_41 (by decide) (fun _ => ?_) (fun c9 => absurd (hne i hi) c9)
    refine ok_iinc (v := _ + 1) (lo' := [_, _, _]) dX4_rest_46 rfl rfl (Nat.le_of_ble_eq_true rfl) rfl rfl ?_
    refine ok_goto (tgt := 31) dX4_rest_49 (by decide) ?_
    rw [nI_1]
    exact ih (i + 1) (by omega)
theorem sp_X4_rest {g : GG} {h : Hp} {Post : Option Value → Hp → Prop} {n : Nat} {r : Nat → Int32} (S : Hs h n r) (h8 : n ≤ 8) {m : Nat} (hm : m < 2 ^ n) (he : ¬ w_rst r n m = 0) (hne : ∀ b, b < m → w_rst r n b = 0) (K : Post (some (.int (nI m))) h) : Sp g mX4_rest [.ref 0] h Post := by
  show Go g mX4_rest 0 [_, _, _] [] _ _ _
  have hv := S.1
  have hn := S.2.2.1
  have h6 := S.2.1.2.2.1
  have hq := s2
  refine ok_aload_n dX4_rest_0 rfl rfl ?_
  refine ok_getR dX4_rest_1 f_X4_16 (by first | exact is_lit hv (by decide) rfl | exact is_sq hv hq | exact is_row hv hq | exact is_pn hv hq (by assumption) | assumption) rfl (by first | exact rf hv rfl | exact rf_row hv hq | assumption) ?_
  refine ok_getI dX4_rest_4 f_X4_53 (by first | exact is_lit hv (by decide) rfl | exact is_sq hv hq | exact is_row hv hq | exact is_pn hv hq (by assumption) | assumption) rfl ?_
  refine ok_bipush (v := 8) dX4_rest_7 (by decide) ?_
  rw [h6]
  refine ok_icmp_le (tgt := 19) dX4_rest_9 (by decide) (fun _ => ?_) (fun c9 => absurd (nI_le h8 (by omega)) c9)
  refine ok_iconst (v := 1) dX4_rest_19 (by decide) ?_
  refine ok_aload_n dX4_rest_20 rfl rfl ?_
  refine ok_getR dX4_rest_21 f_X4_16 (by first | exact is_lit hv (by decide) rfl | exact is_sq hv hq | exact is_row hv hq | exact is_pn hv hq (by assumption) | assumption) rfl (by first | exact rf hv rfl | exact rf_row hv hq | assumption) ?_
  refine ok_getI dX4_rest_24 f_X4_53 (by first | exact is_lit hv (by decide) rfl | exact is_sq hv hq | exact is_row hv hq | exact is_pn hv hq (by assumption) | assumption) rfl ?_
  rw [h6]
  refine ok_ishl dX4_rest_27 ?_
  rw [shl_n n hn]
  refine ok_istore_n (lo' := [_, _, _]) dX4_rest_28 rfl (Nat.le_of_ble_eq_true rfl) rfl rfl ?_
  refine ok_iconst (v := 0) dX4_rest_29 (by decide) ?_
  refine ok_istore_n (lo' := [_, _, _]) dX4_rest_30 rfl (Nat.le_of_ble_eq_true rfl) rfl rfl ?_
  exact lp_X4_rest_31 S h8 hm he hne K m 0 (by omega)
theorem sp_X4_rest_n {g : GG} {h : Hp} {Post : Option Value → Hp → Prop} {n : Nat} {r : Nat → Int32} (S : Hs h n r) (h8 : n ≤ 8) (hne : ∀ b, b < 2 ^ n → w_rst r n b = 0) (K : Post (some (.int (-1000000004))) (hfi h 3)) : Sp g mX4_rest [.ref 0] h Post := by
  show Go g mX4_rest 0 [_, _, _] [] _ _ _
  have hv := S.1
  have hn := S.2.2.1
  have h6 := S.2.1.2.2.1
  have hq := s2
  refine ok_aload_n dX4_rest_0 rfl rfl ?_
  refine ok_getR dX4_rest_1 f_X4_16 (by first | exact is_lit hv (by decide) rfl | exact is_sq hv hq | exact is_row hv hq | exact is_pn hv hq (by assumption) | assumption) rfl (by first | exact rf hv rfl | exact rf_row hv hq | assumption) ?_
  refine ok_getI dX4_rest_4 f_X4_53 (by first | exact is_lit hv (by decide) rfl | exact is_sq hv hq | exact is_row hv hq | exact is_pn hv hq (by assumption) | assumption) rfl ?_
  refine ok_bipush (v := 8) dX4_rest_7 (by decide) ?_
  rw [h6]
  refine ok_icmp_le (tgt := 19) dX4_rest_9 (by decide) (fun _ => ?_) (fun c9 => absurd (nI_le h8 (by omega)) c9)
  refine ok_iconst (v := 1) dX4_rest_19 (by decide) ?_
  refine ok_aload_n dX4_rest_20 rfl rfl ?_
  refine ok_getR dX4_rest_21 f_X4_16 (by first | exact is_lit hv (by decide) rfl | exact is_sq hv hq | exact is_row hv hq | exact is_pn hv hq (by assumption) | assumption) rfl (by first | exact rf hv rfl | exact rf_row hv hq | assumption) ?_
  refine ok_getI dX4_rest_24 f_X4_53 (by first | exact is_lit hv (by decide) rfl | exact is_sq hv hq | exact is_row hv hq | exact is_pn hv hq (by assumption) | assumption) rfl ?_
  rw [h6]
  refine ok_ishl dX4_rest_27 ?_
  rw [shl_n n hn]
  refine ok_istore_n (lo' := [_, _, _]) dX4_rest_28 rfl (Nat.le_of_ble_eq_true rfl) rfl rfl ?_
  refine ok_iconst (v := 0) dX4_rest_29 (by decide) ?_
  refine ok_istore_n (lo' := [_, _, _]) dX4_rest_30 rfl (Nat.le_of_ble_eq_true rfl) rfl rfl ?_
  exact lp_X4_rest_31n S h8 hne K (2 ^ n) 0 (by omega)
