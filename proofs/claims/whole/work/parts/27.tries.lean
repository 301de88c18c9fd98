/-! ===== the class: what an hour would bring ===== -/
/-- what a row of n people keeps to -/
def RG (r : Nat → Int32) (n : Nat) : Prop := n ≤ 10 ∧ r 0 = nI n ∧ Lw (r 2) ∧ B01 (r 3) ∧ ∀ p, p < n → Kd (ro r p 0) ∧ (∃ u, u ≤ 999 ∧ ro r p 1 = nI u) ∧ ∃ u, u ≤ 99 ∧ ro r p 2 = nI u
theorem RG.kd {r : Nat → Int32} {n : Nat} (G : RG r n) : ∀ p, p < n → Kd (ro r p 0) := fun p hp => (G.2.2.2.2 p hp).1
/-- the square here -/
def Hs (h : Hp) (n : Nat) (r : Nat → Int32) : Prop := Inv h ∧ Rep h 2 n r ∧ RG r n
theorem s2 : Sqr 2 := Or.inl rfl
theorem s14 : Sqr 14 := Or.inr (Or.inl rfl)
theorem s26 : Sqr 26 := Or.inr (Or.inr rfl)
theorem Hs.fr {h h' : Hp} {n : Nat} {r : Nat → Int32} (S : Hs h n r) (F : Fr 14 h h') (hv : Inv h') : Hs h' n r := ⟨hv, S.2.1.fr S.1 s2 F (Or.inl (by decide)), S.2.2⟩
/-- behind an hour that was tried -/
theorem gain_rep {h : Hp} {q n p : Nat} {r : Nat → Int32} {who c : Int32} (R : Rep h q n (w_hour r n who c)) (hp : p < n) : (if hI h q 5 ≤ nI p then 0 else pf h q p 2) - pf h q p 4 = w_gain r n who c p := by
  rw [R.2.2.2.1 5 (by decide), R.2.2.2.2 p 2 hp (by decide), R.2.2.2.2 p 4 hp (by decide), w_hour, mk_s (by decide), ro_mk (by decide), ro_mk (by decide), w_gain]
  show (if w_will r n who c ≤ nI p then 0 else ro r p 2) - w_thr r n who c p = _
  by_cases hc : w_will r n who c ≤ nI p
  · rw [if_pos hc, if_neg (fun z => (i_nlt.mpr hc) z)]
  · rw [if_neg hc, if_pos (i_nle.mp hc)]
theorem sp_X4_tryNextHour {g : GG} {h : Hp} {Post : Option Value → Hp → Prop} {n : Nat} {r : Nat → Int32} (S : Hs h n r) (K : ∀ h', FrI 14 h h' → Rep h' 14 n (w_hour r n (-1) 0) → Post none h') : Sp g mX4_tryNextHour [.ref 0] h Post := by
  show Go g mX4_tryNextHour 0 [_] [] _ _ _
  have hv := S.1
  refine ok_aload_n dX4_tryNextHour_0 rfl rfl ?_
  refine ok_getR dX4_tryNextHour_1 f_X4_20 (by first | exact is_lit hv (by decide) rfl | exact is_sq hv hq | exact is_row hv hq | exact is_pn hv hq (by assumption) | assumption) rfl (by first | exact rf hv rfl | exact rf_row hv hq | assumption) ?_
  refine ok_aload_n dX4_tryNextHour_4 rfl rfl ?_
  refine ok_getR dX4_tryNextHour_5 f_X4_16 (by first | exact is_lit hv (by decide) rfl | exact is_sq hv hq | exact is_row hv hq | exact is_pn hv hq (by assumption) | assumption) rfl (by first | exact rf hv rfl | exact rf_row hv hq | assumption) ?_
  refine ok_callV (M' := mX2_become) (b' := (0, 0)) (As := [_]) (cx := 2) dX4_tryNextHour_8 iX2_become w_405 (by decide) rfl (by first | exact is_lit hv (by decide) rfl | exact is_sq hv hq | exact is_row hv hq | exact is_pn hv hq (by assumption) | assumption) rfl (Nat.le_of_ble_eq_true rfl) ⟨Nat.le_of_ble_eq_true rfl, Nat.le_of_ble_eq_true rfl⟩ (Nat.le_of_ble_eq_true rfl) rfl rfl ?_
  refine sp_X2_become (h := _) (q := 14) (o := 2) (n := n) (r := r) S.1 s14 s2 (by decide) S.2.1 S.2.2.2.2.2.1 (fun h1 F1 R1 => ?_)
  have hv1 : Inv h1 := S.1.of F1.1
  have hv := hv1
  refine ok_aload_n dX4_tryNextHour_11 rfl rfl ?_
  refine ok_getR dX4_tryNextHour_12 f_X4_20 (by first | exact is_lit hv (by decide) rfl | exact is_sq hv hq | exact is_row hv hq | exact is_pn hv hq (by assumption) | assumption) rfl (by first | exact rf hv rfl | exact rf_row hv hq | assumption) ?_
  refine ok_iconst (v := -1) dX4_tryNextHour_15 (by decide) ?_
  refine ok_iconst (v := 0) dX4_tryNextHour_16 (by decide) ?_
  refine ok_callV (M' := mX2_passHour) (b' := (0, 0)) (As := [_, _]) (cx := 2) dX4_tryNextHour_17 iX2_passHour w_363 (by decide) rfl (by first | exact is_lit hv (by decide) rfl | exact is_sq hv hq | exact is_row hv hq | exact is_pn hv hq (by assumption) | assumption) rfl (Nat.le_of_ble_eq_true rfl) ⟨Nat.le_of_ble_eq_true rfl, Nat.le_of_ble_eq_true rfl⟩ (Nat.le_of_ble_eq_true rfl) rfl rfl ?_
  refine sp_X2_passHour hv1 s14 R1 S.2.2.kd S.2.2.2.2.1 _ _ (fun h2 F2 R2 => ?_)
  refine ok_pop dX4_tryNextHour_20 rfl ?_
  refine ok_return dX4_tryNextHour_21 rfl ?_
  exact K h2 (F1.tr F2) R2
theorem sp_X4_gainAsIs {g : GG} {h : Hp} {Post : Option Value → Hp → Prop} {n : Nat} {r : Nat → Int32} (S : Hs h n r) {p : Nat} (hp : p < n) (K : ∀ h', Fr 14 h h' → Inv h' → Post (some (.int (w_gain r n (-1) 0 p))) h') : Sp g mX4_gainAsIs [.ref 0, .int (nI p)] h Post := by
  show Go g mX4_gainAsIs 0 [_, _] [] _ _ _
  have hv := S.1
  refine ok_aload_n dX4_gainAsIs_0 rfl rfl ?_
  refine ok_callV (M' := mX4_tryNextHour) (b' := (0, 0)) (As := []) (cx := 4) dX4_gainAsIs_1 iX4_tryNextHour w_401 (by decide) rfl (by first | exact is_lit hv (by decide) rfl | exact is_sq hv hq | exact is_row hv hq | exact is_pn hv hq (by assumption) | assumption) rfl (Nat.le_of_ble_eq_true rfl) ⟨Nat.le_of_ble_eq_true rfl, Nat.le_of_ble_eq_true rfl⟩ (Nat.le_of_ble_eq_true rfl) rfl rfl ?_
  refine sp_X4_tryNextHour S (fun h1 F1 R1 => ?_)
  have hv1 : Inv h1 := S.1.of F1.1
  have hv := hv1
  refine ok_aload_n dX4_gainAsIs_4 rfl rfl ?_
  refine ok_getR dX4_gainAsIs_5 f_X4_20 (by first | exact is_lit hv (by decide) rfl | exact is_sq hv hq | exact is_row hv hq | exact is_pn hv hq (by assumption) | assumption) rfl (by first | exact rf hv rfl | exact rf_row hv hq | assumption) ?_
  refine ok_iload_n dX4_gainAsIs_8 rfl rfl ?_
  refine ok_callV (M' := mX2_gainAt) (b' := (0, 0)) (As := [_]) (cx := 2) dX4_gainAsIs_9 iX2_gainAt w_425 (by decide) rfl (by first | exact is_lit hv (by decide) rfl | exact is_sq hv hq | exact is_row hv hq | exact is_pn hv hq (by assumption) | assumption) rfl (Nat.le_of_ble_eq_true rfl) ⟨Nat.le_of_ble_eq_true rfl, Nat.le_of_ble_eq_true rfl⟩ (Nat.le_of_ble_eq_true rfl) rfl rfl ?_
  refine sp_X2_gainAt (q := 14) hv s14 (by have := S.2.2.1; omega) ?_
  refine ok_ireturn dX4_gainAsIs_12 rfl rfl ?_
  rw [gain_rep R1 hp]
  exact K h1 F1.fr hv1
theorem sp_X4_gainThrowing {g : GG} {h : Hp} {Post : Option Value → Hp → Prop} {n : Nat} {r : Nat → Int32} (S : Hs h n r) {p : Nat} (hp : p < n) (c : Int32) (K : ∀ h', Fr 14 h h' → Inv h' → Post (some (.int (w_gain r n (nI p) c p))) h') : Sp g mX4_gainThrowing [.ref 0, .int (nI p), .int c] h Post := by
  show Go g mX4_gainThrowing 0 [_, _, _] [] _ _ _
  have hv := S.1
  refine ok_aload_n dX4_gainThrowing_0 rfl rfl ?_
  refine ok_getR dX4_gainThrowing_1 f_X4_20 (by first | exact is_lit hv (by decide) rfl | exact is_sq hv hq | exact is_row hv hq | exact is_pn hv hq (by assumption) | assumption) rfl (by first | exact rf hv rfl | exact rf_row hv hq | assumption) ?_
  refine ok_aload_n dX4_gainThrowing_4 rfl rfl ?_
  refine ok_getR dX4_gainThrowing_5 f_X4_16 (by first | exact is_lit hv (by decide) rfl | exact is_sq hv hq | exact is_row hv hq | exact is_pn hv hq (by assumption) | assumption) rfl (by first | exact rf hv rfl | exact rf_row hv hq | assumption) ?_
  refine ok_callV (M' := mX2_become) (b' := (0, 0)) (As := [_]) (cx := 2) dX4_gainThrowing_8 iX2_become w_405 (by decide) rfl (by first | exact is_lit hv (by decide) rfl | exact is_sq hv hq | exact is_row hv hq | exact is_pn hv hq (by assumption) | assumption) rfl (Nat.le_of_ble_eq_true rfl) ⟨Nat.le_of_ble_eq_true rfl, Nat.le_of_ble_eq_true rfl⟩ (Nat.le_of_ble_eq_true rfl) rfl rfl ?_
  refine sp_X2_become (h := _) (q := 14) (o := 2) (n := n) (r := r) S.1 s14 s2 (by decide) S.2.1 S.2.2.2.2.2.1 (fun h1 F1 R1 => ?_)
  have hv1 : Inv h1 := S.1.of F1.1
  have hv := hv1
  refine ok_aload_n dX4_gainThrowing_11 rfl rfl ?_
  refine ok_getR dX4_gainThrowing_12 f_X4_20 (by first | exact is_lit hv (by decide) rfl | exact is_sq hv hq | exact is_row hv hq | exact is_pn hv hq (by assumption) | assumption) rfl (by first | exact rf hv rfl | exact rf_row hv hq | assumption) ?_
  refine ok_iload_n dX4_gainThrowing_15 rfl rfl ?_
  refine ok_iload_n dX4_gainThrowing_16 rfl rfl ?_
  refine ok_callV (M' := mX2_passHour) (b' := (0, 0)) (As := [_, _]) (cx := 2) dX4_gainThrowing_17 iX2_passHour w_363 (by decide) rfl (by first | exact is_lit hv (by decide) rfl | exact is_sq hv hq | exact is_row hv hq | exact is_pn hv hq (by assumption) | assumption) rfl (Nat.le_of_ble_eq_true rfl) ⟨Nat.le_of_ble_eq_true rfl, Nat.le_of_ble_eq_true rfl⟩ (Nat.le_of_ble_eq_true rfl) rfl rfl ?_
  refine sp_X2_passHour hv1 s14 R1 S.2.2.kd S.2.2.2.2.1 _ _ (fun h2 F2 R2 => ?_)
  have hv2 : Inv h2 := hv1.of F2.1
  have hv := hv2
  refine ok_pop dX4_gainThrowing_20 rfl ?_
  refine ok_aload_n dX4_gainThrowing_21 rfl rfl ?_
  refine ok_getR dX4_gainThrowing_22 f_X4_20 (by first | exact is_lit hv (by decide) rfl | exact is_sq hv hq | exact is_row hv hq | exact is_pn hv hq (by assumption) | assumption) rfl (by first | exact rf hv rfl | exact rf_row hv hq | assumption) ?_
  refine ok_iload_n dX4_gainThrowing_25 rfl rfl ?_
  refine ok_callV (M' := mX2_gainAt) (b' := (0, 0)) (As := [_]) (cx := 2) dX4_gainThrowing_26 iX2_gainAt w_425 (by decide) rfl (by first | exact is_lit hv (by decide) rfl | exact is_sq hv hq | exact is_row hv hq | exact is_pn hv hq (by assumption) | assumption) rfl (Nat.le_of_ble_eq_true rfl) ⟨Nat.le_of_ble_eq_true rfl, Nat.le_of_ble_eq_true rfl⟩ (Nat.le_of_ble_eq_true rfl) rfl rfl ?_
  refine sp_X2_gainAt (q := 14) hv s14 (by have := S.2.2.1; omega) ?_
  refine ok_ireturn dX4_gainThrowing_29 rfl rfl ?_
  rw [gain_rep R2 hp]
  exact K h2 (F1.tr F2).fr hv2
theorem RG.pm {r : Nat → Int32} {n : Nat} (G : RG r n) {π : Nat → Nat} (hπ : ∀ p, p < n → π p < n) : RG (w_pm r π) n := by
  obtain ⟨a, b, c, d, e⟩ := G
  refine ⟨a, ?_, ?_, ?_, fun p hp => ?_⟩
  · rw [w_pm, mk_s (by decide)]; exact b
  · rw [w_pm, mk_s (by decide)]; exact c
  · rw [w_pm, mk_s (by decide)]; exact d
  · rw [w_pm, ro_mk (by decide), ro_mk (by decide), ro_mk (by decide)]; exact e _ (hπ p hp)
theorem RG.kind {r : Nat → Int32} {n p : Nat} {k : Int32} (G : RG r n) (hk : Kd k) : RG (w_set r (7 + 7 * p + 0) k) n := by
  obtain ⟨a, b, c, d, e⟩ := G
  refine ⟨a, (if_neg (by omega)).trans b, ?_, ?_, fun p2 hp => ?_⟩
  · rw [show w_set r (7 + 7 * p + 0) k 2 = r 2 from if_neg (by omega)]; exact c
  · rw [show w_set r (7 + 7 * p + 0) k 3 = r 3 from if_neg (by omega)]; exact d
  · obtain ⟨e1, e2, e3⟩ := e p2 hp
    refine ⟨?_, ?_, ?_⟩
    · by_cases hpp : p2 = p
      · rw [show ro (w_set r (7 + 7 * p + 0) k) p2 0 = k from if_pos (by omega)]; exact hk
      · rw [show ro (w_set r (7 + 7 * p + 0) k) p2 0 = ro r p2 0 from if_neg (by omega)]; exact e1
    · rw [show ro (w_set r (7 + 7 * p + 0) k) p2 1 = ro r p2 1 from if_neg (by omega)]; exact e2
    · rw [show ro (w_set r (7 + 7 * p + 0) k) p2 2 = ro r p2 2 from if_neg (by omega)]; exact e3
theorem RG.sca {r : Nat → Int32} {n k : Nat} {v : Int32} (G : RG r n) (h0 : k ≠ 0) (h7 : k < 7) (h2 : k = 2 → Lw v) (h3 : k = 3 → B01 v) : RG (w_set r k v) n := by
  obtain ⟨a, b, c, d, e⟩ := G
  refine ⟨a, (if_neg (by omega)).trans b, ?_, ?_, fun p2 hp => ?_⟩
  · by_cases z : k = 2
    · rw [show w_set r k v 2 = v from if_pos z.symm]; exact h2 z
    · rw [show w_set r k v 2 = r 2 from if_neg (fun y => z y.symm)]; exact c
  · by_cases z : k = 3
    · rw [show w_set r k v 3 = v from if_pos z.symm]; exact h3 z
    · rw [show w_set r k v 3 = r 3 from if_neg (fun y => z y.symm)]; exact d
  · rw [ro_set h7, ro_set h7, ro_set h7]; exact e p2 hp
theorem hmv_pm (h : Hp) (q f t : Nat) : hmv h q f t = hpm h q (mv f t) := rfl
theorem sp_X4_gainStanding {g : GG} {h : Hp} {Post : Option Value → Hp → Prop} {n : Nat} {r : Nat → Int32} (S : Hs h n r) {p t : Nat} (hp : p < n) (ht : t < n) (K : ∀ h', Fr 14 h h' → Inv h' → Post (some (.int (w_gain (w_pm r (mv p t)) n (-1) 0 t))) h') : Sp g mX4_gainStanding [.ref 0, .int (nI p), .int (nI t)] h Post := by
  show Go g mX4_gainStanding 0 [_, _, _] [] _ _ _
  have hv := S.1
  have hn := S.2.2.1
  refine ok_aload_n dX4_gainStanding_0 rfl rfl ?_
  refine ok_getR dX4_gainStanding_1 f_X4_20 (by first | exact is_lit hv (by decide) rfl | exact is_sq hv hq | exact is_row hv hq | exact is_pn hv hq (by assumption) | assumption) rfl (by first | exact rf hv rfl | exact rf_row hv hq | assumption) ?_
  refine ok_aload_n dX4_gainStanding_4 rfl rfl ?_
  refine ok_getR dX4_gainStanding_5 f_X4_16 (by first | exact is_lit hv (by decide) rfl | exact is_sq hv hq | exact is_row hv hq | exact is_pn hv hq (by assumption) | assumption) rfl (by first | exact rf hv rfl | exact rf_row hv hq | assumption) ?_
  refine ok_callV (M' := mX2_become) (b' := (0, 0)) (As := [_]) (cx := 2) dX4_gainStanding_8 iX2_become w_405 (by decide) rfl (by first | exact is_lit hv (by decide) rfl | exact is_sq hv hq | exact is_row hv hq | exact is_pn hv hq (by assumption) | assumption) rfl (Nat.le_of_ble_eq_true rfl) ⟨Nat.le_of_ble_eq_true rfl, Nat.le_of_ble_eq_true rfl⟩ (Nat.le_of_ble_eq_true rfl) rfl rfl ?_
  refine sp_X2_become (h := _) (q := 14) (o := 2) (n := n) (r := r) S.1 s14 s2 (by decide) S.2.1 S.2.2.2.2.2.1 (fun h1 F1 R1 => ?_)
  have hv1 : Inv h1 := S.1.of F1.1
  have hv := hv1
  refine ok_aload_n dX4_gainStanding_11 rfl rfl ?_
  refine ok_getR dX4_gainStanding_12 f_X4_20 (by first | exact is_lit hv (by decide) rfl | exact is_sq hv hq | exact is_row hv hq | exact is_pn hv hq (by assumption) | assumption) rfl (by first | exact rf hv rfl | exact rf_row hv hq | assumption) ?_
  refine ok_iload_n dX4_gainStanding_15 rfl rfl ?_
  refine ok_iload_n dX4_gainStanding_16 rfl rfl ?_
  refine ok_callV (M' := mX2_walk) (b' := (0, 0)) (As := [_, _]) (cx := 2) dX4_gainStanding_17 iX2_walk w_323 (by decide) rfl (by first | exact is_lit hv (by decide) rfl | exact is_sq hv hq | exact is_row hv hq | exact is_pn hv hq (by assumption) | assumption) rfl (Nat.le_of_ble_eq_true rfl) ⟨Nat.le_of_ble_eq_true rfl, Nat.le_of_ble_eq_true rfl⟩ (Nat.le_of_ble_eq_true rfl) rfl rfl ?_
  refine sp_X2_walk hv1 s14 (by omega) (by omega) ?_
  have hv3 : Inv (hmv h1 14 p t) := inv_pm hv1 s14 (fun j hj => mv_lt (by omega) (by omega) hj) (fun _ _ _ _ => mv_inj)
  have R3 := rep_pm R1 (fun j hj => mv_lt hp ht hj)
  have hv := hv3
  refine ok_aload_n dX4_gainStanding_20 rfl rfl ?_
  refine ok_getR dX4_gainStanding_21 f_X4_20 (by first | exact is_lit hv (by decide) rfl | exact is_sq hv hq | exact is_row hv hq | exact is_pn hv hq (by assumption) | assumption) rfl (by first | exact rf hv rfl | exact rf_row hv hq | assumption) ?_
  refine ok_iconst (v := -1) dX4_gainStanding_24 (by decide) ?_
  refine ok_iconst (v := 0) dX4_gainStanding_25 (by decide) ?_
  refine ok_callV (M' := mX2_passHour) (b' := (0, 0)) (As := [_, _]) (cx := 2) dX4_gainStanding_26 iX2_passHour w_363 (by decide) rfl (by first | exact is_lit hv (by decide) rfl | exact is_sq hv hq | exact is_row hv hq | exact is_pn hv hq (by assumption) | assumption) rfl (Nat.le_of_ble_eq_true rfl) ⟨Nat.le_of_ble_eq_true rfl, Nat.le_of_ble_eq_true rfl⟩ (Nat.le_of_ble_eq_true rfl) rfl rfl ?_
  refine sp_X2_passHour hv3 s14 R3 (RG.pm S.2.2 (fun j hj => mv_lt hp ht hj)).kd (RG.pm S.2.2 (fun j hj => mv_lt hp ht hj)).2.2.1 _ _ (fun h2 F2 R2 => ?_)
  have hv2 : Inv h2 := hv3.of F2.1
  have hv := hv2
  refine ok_pop dX4_gainStanding_29 rfl ?_
  refine ok_aload_n dX4_gainStanding_30 rfl rfl ?_
  refine ok_getR dX4_gainStanding_31 f_X4_20 (by first | exact is_lit hv (by decide) rfl | exact is_sq hv hq | exact is_row hv hq | exact is_pn hv hq (by assumption) | assumption) rfl (by first | exact rf hv rfl | exact rf_row hv hq | assumption) ?_
  refine ok_iload_n dX4_gainStanding_34 rfl rfl ?_
  refine ok_callV (M' := mX2_gainAt) (b' := (0, 0)) (As := [_]) (cx := 2) dX4_gainStanding_35 iX2_gainAt w_425 (by decide) rfl (by first | exact is_lit hv (by decide) rfl | exact is_sq hv hq | exact is_row hv hq | exact is_pn hv hq (by assumption) | assumption) rfl (Nat.le_of_ble_eq_true rfl) ⟨Nat.le_of_ble_eq_true rfl, Nat.le_of_ble_eq_true rfl⟩ (Nat.le_of_ble_eq_true rfl) rfl rfl ?_
  refine sp_X2_gainAt (q := 14) hv s14 (by have := S.2.2.1; omega) ?_
  refine ok_ireturn dX4_gainStanding_38 rfl rfl ?_
  rw [gain_rep R2 ht]
  exact K h2 ((F1.fr.tr Fr.pm).tr F2.fr) hv2
theorem sp_X4_gainBeing {g : GG} {h : Hp} {Post : Option Value → Hp → Prop} {n : Nat} {r : Nat → Int32} (S : Hs h n r) {p : Nat} (hp : p < n) {k : Int32} (hk : Kd k) (K : ∀ h', Fr 14 h h' → Inv h' → Post (some (.int (w_gain (w_set r (7 + 7 * p + 0) k) n (-1) 0 p))) h') : Sp g mX4_gainBeing [.ref 0, .int (nI p), .int k] h Post := by
  show Go g mX4_gainBeing 0 [_, _, _] [] _ _ _
  have hv := S.1
  have hn := S.2.2.1
  have hp10 : p < 10 := by omega
  have hq := s14
  refine ok_aload_n dX4_gainBeing_0 rfl rfl ?_
  refine ok_getR dX4_gainBeing_1 f_X4_20 (by first | exact is_lit hv (by decide) rfl | exact is_sq hv hq | exact is_row hv hq | exact is_pn hv hq (by assumption) | assumption) rfl (by first | exact rf hv rfl | exact rf_row hv hq | assumption) ?_
  refine ok_aload_n dX4_gainBeing_4 rfl rfl ?_
  refine ok_getR dX4_gainBeing_5 f_X4_16 (by first | exact is_lit hv (by decide) rfl | exact is_sq hv hq | exact is_row hv hq | exact is_pn hv hq (by assumption) | assumption) rfl (by first | exact rf hv rfl | exact rf_row hv hq | assumption) ?_
  refine ok_callV (M' := mX2_become) (b' := (0, 0)) (As := [_]) (cx := 2) dX4_gainBeing_8 iX2_become w_405 (by decide) rfl (by first | exact is_lit hv (by decide) rfl | exact is_sq hv hq | exact is_row hv hq | exact is_pn hv hq (by assumption) | assumption) rfl (Nat.le_of_ble_eq_true rfl) ⟨Nat.le_of_ble_eq_true rfl, Nat.le_of_ble_eq_true rfl⟩ (Nat.le_of_ble_eq_true rfl) rfl rfl ?_
  refine sp_X2_become (h := _) (q := 14) (o := 2) (n := n) (r := r) S.1 s14 s2 (by decide) S.2.1 S.2.2.2.2.2.1 (fun h1 F1 R1 => ?_)
  have hv1 : Inv h1 := S.1.of F1.1
  have hv := hv1
  have hin := pn_in hv1 s14 hp10
  have R3 := rep_uP (v := k) hv1 s14 hp (show 0 < 7 by decide) R1
  refine ok_aload_n dX4_gainBeing_11 rfl rfl ?_
  refine ok_getR dX4_gainBeing_12 f_X4_20 (by first | exact is_lit hv (by decide) rfl | exact is_sq hv hq | exact is_row hv hq | exact is_pn hv hq (by assumption) | assumption) rfl (by first | exact rf hv rfl | exact rf_row hv hq | assumption) ?_
  refine ok_getR dX4_gainBeing_15 f_X4_64 (is_sq hv hq) rfl (rf_row hv hq) ?_
  refine ok_iload_n dX4_gainBeing_18 rfl rfl ?_
  refine ok_aaloadP dX4_gainBeing_19 (by first | exact is_lit hv (by decide) rfl | exact is_sq hv hq | exact is_row hv hq | exact is_pn hv hq (by assumption) | assumption) (by first | decide | exact vp_in_nI (by assumption) (by decide) | exact vp_in_nI (by omega) (by decide) | assumption) (by first | exact rf_nI hv hq (by assumption) | assumption) ?_
  refine ok_iload_n dX4_gainBeing_20 rfl rfl ?_
  refine ok_putI dX4_gainBeing_21 f_X4_68 (by first | exact is_lit hv (by decide) rfl | exact is_sq hv hq | exact is_row hv hq | exact is_pn hv hq (by assumption) | assumption) rfl rfl rfl rfl ?_
  refine ok_aload_n dX4_gainBeing_24 rfl rfl ?_
  refine ok_getR dX4_gainBeing_25 f_X4_20 (by first | exact is_lit hv (by decide) rfl | exact is_sq hv hq | exact is_row hv hq | exact is_pn hv hq (by assumption) | assumption) rfl (by first | exact rf hv rfl | exact rf_row hv hq | assumption) ?_
  refine ok_iconst (v := -1) dX4_gainBeing_28 (by decide) ?_
  refine ok_iconst (v := 0) dX4_gainBeing_29 (by decide) ?_
  refine ok_callV (M' := mX2_passHour) (b' := (0, 0)) (As := [_, _]) (cx := 2) dX4_gainBeing_30 iX2_passHour w_363 (by decide) rfl (by first | exact is_lit hv (by decide) rfl | exact is_sq hv hq | exact is_row hv hq | exact is_pn hv hq (by assumption) | assumption) rfl (Nat.le_of_ble_eq_true rfl) ⟨Nat.le_of_ble_eq_true rfl, Nat.le_of_ble_eq_true rfl⟩ (Nat.le_of_ble_eq_true rfl) rfl rfl ?_
  refine sp_X2_passHour (h := uI h1 (pn h1 14 p) 0 k) hv1 s14 R3 (RG.kind S.2.2 hk).kd (RG.kind S.2.2 hk).2.2.1 _ _ (fun h2 F2 R2 => ?_)
  have hv2 : Inv h2 := hv1.of F2.1
  have hv := hv2
  refine ok_pop dX4_gainBeing_33 rfl ?_
  refine ok_aload_n dX4_gainBeing_34 rfl rfl ?_
  refine ok_getR dX4_gainBeing_35 f_X4_20 (by first | exact is_lit hv (by decide) rfl | exact is_sq hv hq | exact is_row hv hq | exact is_pn hv hq (by assumption) | assumption) rfl (by first | exact rf hv rfl | exact rf_row hv hq | assumption) ?_
  refine ok_iload_n dX4_gainBeing_38 rfl rfl ?_
  refine ok_callV (M' := mX2_gainAt) (b' := (0, 0)) (As := [_]) (cx := 2) dX4_gainBeing_39 iX2_gainAt w_425 (by decide) rfl (by first | exact is_lit hv (by decide) rfl | exact is_sq hv hq | exact is_row hv hq | exact is_pn hv hq (by assumption) | assumption) rfl (Nat.le_of_ble_eq_true rfl) ⟨Nat.le_of_ble_eq_true rfl, Nat.le_of_ble_eq_true rfl⟩ (Nat.le_of_ble_eq_true rfl) rfl rfl ?_
  refine sp_X2_gainAt (q := 14) hv s14 (by have := S.2.2.1; omega) ?_
  refine ok_ireturn dX4_gainBeing_42 rfl rfl ?_
  rw [gain_rep R2 hp]
  exact K h2 (((F1.u (by omega) (by omega)).tr F2).fr) hv2
theorem gains_rep {h : Hp} {q n : Nat} {r : Nat → Int32} {who c : Int32} (R : Rep h q n (w_hour r n who c)) : w_sum (fun p => (if hI h q 5 ≤ nI p then 0 else pf h q p 2) - pf h q p 4) n = w_sum (w_gain r n who c) n := w_sum_congr (fun p hp => gain_rep R hp)
/-- a row with another diver -/
def w_div (r : Nat → Int32) (s l : Int32) : Nat → Int32 := w_set (w_set r 3 s) 4 (if s = 0 then 0 else l)
theorem RG.div {r : Nat → Int32} {n : Nat} (G : RG r n) {s : Int32} (hs : B01 s) (l : Int32) : RG (w_div r s l) n := (G.sca (k := 3) (by decide) (by decide) (fun z => absurd z (by decide)) (fun _ => hs)).sca (by decide) (by decide) (fun z => absurd z (by decide)) (fun z => absurd z (by decide))
theorem sp_X4_gainsHearing {g : GG} {h : Hp} {Post : Option Value → Hp → Prop} {n : Nat} {r : Nat → Int32} (S : Hs h n r) {s : Int32} (hs : B01 s) (l : Int32) (K : ∀ h', Fr 14 h h' → Inv h' → Post (some (.int (w_sum (w_gain (w_div r s l) n (-1) 0) n))) h') : Sp g mX4_gainsHearing [.ref 0, .int s, .int l] h Post := by
  show Go g mX4_gainsHearing 0 [_, _, _] [] _ _ _
  have hv := S.1
  have hn := S.2.2.1
  refine ok_aload_n dX4_gainsHearing_0 rfl rfl ?_
  refine ok_getR dX4_gainsHearing_1 f_X4_20 (by first | exact is_lit hv (by decide) rfl | exact is_sq hv hq | exact is_row hv hq | exact is_pn hv hq (by assumption) | assumption) rfl (by first | exact rf hv rfl | exact rf_row hv hq | assumption) ?_
  refine ok_aload_n dX4_gainsHearing_4 rfl rfl ?_
  refine ok_getR dX4_gainsHearing_5 f_X4_16 (by first | exact is_lit hv (by decide) rfl | exact is_sq hv hq | exact is_row hv hq | exact is_pn hv hq (by assumption) | assumption) rfl (by first | exact rf hv rfl | exact rf_row hv hq | assumption) ?_
  refine ok_callV (M' := mX2_become) (b' := (0, 0)) (As := [_]) (cx := 2) dX4_gainsHearing_8 iX2_become w_405 (by decide) rfl (by first | exact is_lit hv (by decide) rfl | exact is_sq hv hq | exact is_row hv hq | exact is_pn hv hq (by assumption) | assumption) rfl (Nat.le_of_ble_eq_true rfl) ⟨Nat.le_of_ble_eq_true rfl, Nat.le_of_ble_eq_true rfl⟩ (Nat.le_of_ble_eq_true rfl) rfl rfl ?_
  refine sp_X2_become (h := _) (q := 14) (o := 2) (n := n) (r := r) S.1 s14 s2 (by decide) S.2.1 S.2.2.2.2.2.1 (fun h1 F1 R1 => ?_)
  have hv1 : Inv h1 := S.1.of F1.1
  have hv := hv1
  refine ok_aload_n dX4_gainsHearing_11 rfl rfl ?_
  refine ok_getR dX4_gainsHearing_12 f_X4_20 (by first | exact is_lit hv (by decide) rfl | exact is_sq hv hq | exact is_row hv hq | exact is_pn hv hq (by assumption) | assumption) rfl (by first | exact rf hv rfl | exact rf_row hv hq | assumption) ?_
  refine ok_iload_n dX4_gainsHearing_15 rfl rfl ?_
  refine ok_iload_n dX4_gainsHearing_16 rfl rfl ?_
  refine ok_callV (M' := mX2_hear) (b' := (0, 0)) (As := [_, _]) (cx := 2) dX4_gainsHearing_17 iX2_hear w_354 (by decide) rfl (by first | exact is_lit hv (by decide) rfl | exact is_sq hv hq | exact is_row hv hq | exact is_pn hv hq (by assumption) | assumption) rfl (Nat.le_of_ble_eq_true rfl) ⟨Nat.le_of_ble_eq_true rfl, Nat.le_of_ble_eq_true rfl⟩ (Nat.le_of_ble_eq_true rfl) rfl rfl ?_
  refine sp_X2_hear hv1 s14 hs _ ?_
  have R3 : Rep (uI (uI h1 14 2 s) 14 3 (if s = 0 then 0 else l)) 14 n (w_div r s l) := rep_uS (h := uI h1 14 2 s) hv1 s14 (by decide) (rep_uS hv1 s14 (by decide) R1)
  refine ok_aload_n dX4_gainsHearing_20 rfl rfl ?_
  refine ok_getR dX4_gainsHearing_21 f_X4_20 (by first | exact is_lit hv (by decide) rfl | exact is_sq hv hq | exact is_row hv hq | exact is_pn hv hq (by assumption) | assumption) rfl (by first | exact rf hv rfl | exact rf_row hv hq | assumption) ?_
  refine ok_iconst (v := -1) dX4_gainsHearing_24 (by decide) ?_
  refine ok_iconst (v := 0) dX4_gainsHearing_25 (by decide) ?_
  refine ok_callV (M' := mX2_passHour) (b' := (0, 0)) (As := [_, _]) (cx := 2) dX4_gainsHearing_26 iX2_passHour w_363 (by decide) rfl (by first | exact is_lit hv (by decide) rfl | exact is_sq hv hq | exact is_row hv hq | exact is_pn hv hq (by assumption) | assumption) rfl (Nat.le_of_ble_eq_true rfl) ⟨Nat.le_of_ble_eq_true rfl, Nat.le_of_ble_eq_true rfl⟩ (Nat.le_of_ble_eq_true rfl) rfl rfl ?_
  refine sp_X2_passHour (h := uI (uI h1 14 2 s) 14 3 (if s = 0 then 0 else l)) hv1 s14 R3 (S.2.2.div hs l).kd (S.2.2.div hs l).2.2.1 _ _ (fun h2 F2 R2 => ?_)
  have hv2 : Inv h2 := hv1.of F2.1
  have hv := hv2
  refine ok_pop dX4_gainsHearing_29 rfl ?_
  refine ok_aload_n dX4_gainsHearing_30 rfl rfl ?_
  refine ok_getR dX4_gainsHearing_31 f_X4_20 (by first | exact is_lit hv (by decide) rfl | exact is_sq hv hq | exact is_row hv hq | exact is_pn hv hq (by assumption) | assumption) rfl (by first | exact rf hv rfl | exact rf_row hv hq | assumption) ?_
  refine ok_callV (M' := mX2_allGains) (b' := (0, 0)) (As := []) (cx := 2) dX4_gainsHearing_34 iX2_allGains w_437 (by decide) rfl (by first | exact is_lit hv (by decide) rfl | exact is_sq hv hq | exact is_row hv hq | exact is_pn hv hq (by assumption) | assumption) rfl (Nat.le_of_ble_eq_true rfl) ⟨Nat.le_of_ble_eq_true rfl, Nat.le_of_ble_eq_true rfl⟩ (Nat.le_of_ble_eq_true rfl) rfl rfl ?_
  refine sp_X2_allGains (q := 14) hv2 s14 hn R2.2.2.1 ?_
  refine ok_ireturn dX4_gainsHearing_37 rfl rfl ?_
  rw [gains_rep R2]
  exact K h2 ((((F1.u (by omega) (by omega)).u (by omega) (by omega)).tr F2).fr) hv2
/-- pails for each coin, by a law -/
def w_each (r : Nat → Int32) (n : Nat) : Int32 := if w_sum (fun p => if 0 < w_thr r n (-1) 0 p then w_thr r n (-1) 0 p else 0) n ≤ 0 then w_fill (w_will r n (-1) 0) n * 100 else w_fill (w_will r n (-1) 0) n * 100 / w_sum (fun p => if 0 < w_thr r n (-1) 0 p then w_thr r n (-1) 0 p else 0) n
theorem paid_rep {h : Hp} {q n : Nat} {r : Nat → Int32} {who c : Int32} (R : Rep h q n (w_hour r n who c)) : w_sum (fun p => if 0 < pf h q p 4 then pf h q p 4 else 0) n = w_sum (fun p => if 0 < w_thr r n who c p then w_thr r n who c p else 0) n := w_sum_congr (fun p hp => by
  have e : pf h q p 4 = w_thr r n who c p := by rw [R.2.2.2.2 p 4 hp (by decide), w_hour, ro_mk (by decide)]; rfl
  simp only [e])
theorem sp_X4_pailsForCoins {g : GG} {h : Hp} {Post : Option Value → Hp → Prop} {n : Nat} {r : Nat → Int32} (S : Hs h n r) {l : Int32} (hl : Lw l) (K : ∀ h', Fr 14 h h' → Inv h' → Post (some (.int (w_each (w_set r 2 l) n))) h') : Sp g mX4_pailsForCoins [.ref 0, .int l] h Post := by
  show Go g mX4_pailsForCoins 0 [_, _, _, _] [] _ _ _
  have hv := S.1
  have hn := S.2.2.1
  have hq := s14
  have G := S.2.2.sca (k := 2) (v := l) (by decide) (by decide) (fun _ => hl) (fun z => absurd z (by decide))
  refine ok_aload_n dX4_pailsForCoins_0 rfl rfl ?_
  refine ok_getR dX4_pailsForCoins_1 f_X4_20 (by first | exact is_lit hv (by decide) rfl | exact is_sq hv hq | exact is_row hv hq | exact is_pn hv hq (by assumption) | assumption) rfl (by first | exact rf hv rfl | exact rf_row hv hq | assumption) ?_
  refine ok_aload_n dX4_pailsForCoins_4 rfl rfl ?_
  refine ok_getR dX4_pailsForCoins_5 f_X4_16 (by first | exact is_lit hv (by decide) rfl | exact is_sq hv hq | exact is_row hv hq | exact is_pn hv hq (by assumption) | assumption) rfl (by first | exact rf hv rfl | exact rf_row hv hq | assumption) ?_
  refine ok_callV (M' := mX2_become) (b' := (0, 0)) (As := [_]) (cx := 2) dX4_pailsForCoins_8 iX2_become w_405 (by decide) rfl (by first | exact is_lit hv (by decide) rfl | exact is_sq hv hq | exact is_row hv hq | exact is_pn hv hq (by assumption) | assumption) rfl (Nat.le_of_ble_eq_true rfl) ⟨Nat.le_of_ble_eq_true rfl, Nat.le_of_ble_eq_true rfl⟩ (Nat.le_of_ble_eq_true rfl) rfl rfl ?_
  refine sp_X2_become (h := _) (q := 14) (o := 2) (n := n) (r := r) S.1 s14 s2 (by decide) S.2.1 S.2.2.2.2.2.1 (fun h1 F1 R1 => ?_)
  have hv1 : Inv h1 := S.1.of F1.1
  have hv := hv1
  have R3 : Rep (uI h1 14 1 l) 14 n (w_set r 2 l) := rep_uS hv1 s14 (by decide) R1
  refine ok_aload_n dX4_pailsForCoins_11 rfl rfl ?_
  refine ok_getR dX4_pailsForCoins_12 f_X4_20 (by first | exact is_lit hv (by decide) rfl | exact is_sq hv hq | exact is_row hv hq | exact is_pn hv hq (by assumption) | assumption) rfl (by first | exact rf hv rfl | exact rf_row hv hq | assumption) ?_
  refine ok_iload_n dX4_pailsForCoins_15 rfl rfl ?_
  refine ok_putI dX4_pailsForCoins_16 f_X4_129 (by first | exact is_lit hv (by decide) rfl | exact is_sq hv hq | exact is_row hv hq | exact is_pn hv hq (by assumption) | assumption) rfl rfl rfl rfl ?_
  refine ok_aload_n dX4_pailsForCoins_19 rfl rfl ?_
  refine ok_getR dX4_pailsForCoins_20 f_X4_20 (by first | exact is_lit hv (by decide) rfl | exact is_sq hv hq | exact is_row hv hq | exact is_pn hv hq (by assumption) | assumption) rfl (by first | exact rf hv rfl | exact rf_row hv hq | assumption) ?_
  refine ok_iconst (v := -1) dX4_pailsForCoins_23 (by decide) ?_
  refine ok_iconst (v := 0) dX4_pailsForCoins_24 (by decide) ?_
  refine ok_callV (M' := mX2_passHour) (b' := (0, 0)) (As := [_, _]) (cx := 2) dX4_pailsForCoins_25 iX2_passHour w_363 (by decide) rfl (by first | exact is_lit hv (by decide) rfl | exact is_sq hv hq | exact is_row hv hq | exact is_pn hv hq (by assumption) | assumption) rfl (Nat.le_of_ble_eq_true rfl) ⟨Nat.le_of_ble_eq_true rfl, Nat.le_of_ble_eq_true rfl⟩ (Nat.le_of_ble_eq_true rfl) rfl rfl ?_
  refine sp_X2_passHour (h := uI h1 14 1 l) hv1 s14 R3 G.kd G.2.2.1 _ _ (fun h2 F2 R2 => ?_)
  have hv2 : Inv h2 := hv1.of F2.1
  have hv := hv2
  refine ok_istore_n (lo' := [_, _, _, _]) dX4_pailsForCoins_28 rfl (Nat.le_of_ble_eq_true rfl) rfl rfl ?_
  refine ok_aload_n dX4_pailsForCoins_29 rfl rfl ?_
  refine ok_getR dX4_pailsForCoins_30 f_X4_20 (by first | exact is_lit hv (by decide) rfl | exact is_sq hv hq | exact is_row hv hq | exact is_pn hv hq (by assumption) | assumption) rfl (by first | exact rf hv rfl | exact rf_row hv hq | assumption) ?_
  refine ok_callV (M' := mX2_allPaid) (b' := (0, 0)) (As := []) (cx := 2) dX4_pailsForCoins_33 iX2_allPaid w_512 (by decide) rfl (by first | exact is_lit hv (by decide) rfl | exact is_sq hv hq | exact is_row hv hq | exact is_pn hv hq (by assumption) | assumption) rfl (Nat.le_of_ble_eq_true rfl) ⟨Nat.le_of_ble_eq_true rfl, Nat.le_of_ble_eq_true rfl⟩ (Nat.le_of_ble_eq_true rfl) rfl rfl ?_
  refine sp_X2_allPaid (q := 14) hv2 s14 hn R2.2.2.1 ?_
  rw [paid_rep R2]
  refine ok_istore_n (lo' := [_, _, _, _]) dX4_pailsForCoins_36 rfl (Nat.le_of_ble_eq_true rfl) rfl rfl ?_
  refine ok_iload_n dX4_pailsForCoins_37 rfl rfl ?_
  refine ok_if_le (tgt := 50) dX4_pailsForCoins_38 (by decide) (fun c_38 => ?_) (fun c_38 => ?_)
  · refine ok_iload_n dX4_pailsForCoins_50 rfl rfl ?_
    refine ok_bipush (v := 100) dX4_pailsForCoins_51 (by decide) ?_
    refine ok_imul dX4_pailsForCoins_53 ?_
    refine ok_ireturn dX4_pailsForCoins_54 rfl rfl ?_
    have K2 := K h2 (((F1.u (by omega) (by omega)).tr F2).fr) hv2
    unfold w_each at K2
    first | (rw [if_pos c_38] at K2; exact K2) | (rw [if_neg c_38] at K2; exact K2)
  · refine ok_iload_n dX4_pailsForCoins_41 rfl rfl ?_
    refine ok_bipush (v := 100) dX4_pailsForCoins_42 (by decide) ?_
    refine ok_imul dX4_pailsForCoins_44 ?_
    refine ok_iload_n dX4_pailsForCoins_45 rfl rfl ?_
    refine ok_idiv dX4_pailsForCoins_46 (fun z => c_38 (by rw [z]; decide)) ?_
    refine ok_goto (tgt := 54) dX4_pailsForCoins_47 (by decide) ?_
    refine ok_ireturn dX4_pailsForCoins_54 rfl rfl ?_
    have K2 := K h2 (((F1.u (by omega) (by omega)).tr F2).fr) hv2
    unfold w_each at K2
    first | (rw [if_pos c_38] at K2; exact K2) | (rw [if_neg c_38] at K2; exact K2)
