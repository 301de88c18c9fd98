/-! ===== the reference: one more, changes of place, copies of the row ===== -/
def cpI (h : Hp) (s d i : Nat) : Hp := (fun q j => if q = d ∧ j < i then h.1 s j else h.1 q j, h.2)
theorem cpI_0 (h : Hp) (s d : Nat) : cpI h s d 0 = h := by
  have : (fun q j => if q = d ∧ j < 0 then h.1 s j else h.1 q j) = h.1 := funext fun q => funext fun j => if_neg (by omega)
  show (_, h.2) = h
  rw [this]
theorem cpI_s (h : Hp) (s d i : Nat) : uI (cpI h s d i) d i (h.1 s i) = cpI h s d (i + 1) := by
  have : (fun q j => if q = d ∧ j = i then h.1 s i else if q = d ∧ j < i then h.1 s j else h.1 q j) = fun q j => if q = d ∧ j < i + 1 then h.1 s j else h.1 q j := by
    funext q j
    by_cases e : q = d ∧ j = i
    · rw [if_pos e, if_pos ⟨e.1, by omega⟩, e.2]
    · rw [if_neg e]
      by_cases e2 : q = d ∧ j < i
      · rw [if_pos e2, if_pos ⟨e2.1, by omega⟩]
      · rw [if_neg e2, if_neg (by omega)]
  show (_, h.2) = (_, h.2)
  rw [← this]
  rfl
theorem cpI_at {h : Hp} {s d i k : Nat} (hs : s ≠ d) : hI (cpI h s d i) s k = hI h s k := if_neg (fun e => hs e.1)
theorem cpI_to {h : Hp} {s d i k : Nat} (hk : k < i) : hI (cpI h s d i) d k = hI h s k := if_pos ⟨rfl, hk⟩
theorem RM.cp {h : Hp} {s d n : Nat} {r : Nat → Int32} (R : RM s h n r) : RM d (cpI h s d 77) n r := ⟨R.1, R.2.1, fun k hk => (cpI_to (by omega)).trans (R.2.2.1 k hk), fun p f hp hf => (cpI_to (by have := R.1; omega)).trans (R.2.2.2 p f hp hf)⟩
theorem RM.cs {h : Hp} {s d n : Nat} {r : Nat → Int32} (R : RM s h n r) (hs : s ≠ d) : RM s (cpI h s d 77) n r := ⟨R.1, R.2.1, fun k hk => (cpI_at hs).trans (R.2.2.1 k hk), fun p f hp hf => (cpI_at hs).trans (R.2.2.2 p f hp hf)⟩
def Sto (a : Nat) : Prop := a = 54 ∨ a = 60 ∨ a = 61
theorem is_sto {h : Hp} {a : Nat} (hv : Inv h) (ha : Sto a) : Is h a 7 77 := by
  rcases ha with rfl | rfl | rfl <;> exact is_lit hv (by decide) rfl
theorem lp_X5_moveAll_2k {g : GG} {h0 : Hp} {Post : Option Value → Hp → Prop} (hv0 : Inv h0) {a : Nat} (ha : Sto a) (K : Post none (cpI h0 50 a 77)) : ∀ (k i : Nat), i + k = 77 → Go g mX5_moveAll 2 [some (.ref 49), some (.int 1), some (.ref a), some (.int (nI i))] [] (cpI h0 50 a i) (0, 0) Post := by
  intro k
  induction k with
  | zero =>
    intro i  hik 
    obtain rfl : i = 77 := by omega
    refine ok_iload_n dX5_moveAll_2 rfl rfl ?_
    refine ok_bipush (v := 77) dX5_moveAll_3 (by decide) ?_
    refine ok_icmp_ge (tgt := 39) dX5_moveAll_5 (by decide) (fun _ => ?_) (fun c9 => absurd (by decide) c9)
    refine ok_return dX5_moveAll_39 rfl ?_
    exact K
  | succ k ih =>
    intro i  hik 
    have hi : i < 77 := by omega
    have hv : Inv (cpI h0 50 a i) := hv0
    have hne : a ≠ 50 := by rcases ha with rfl | rfl | rfl <;> decide
    refine ok_iload_n dX5_moveAll_2 rfl rfl ?_
    refine ok_bipush (v := 77) dX5_moveAll_3 (by decide) ?_
    refine ok_icmp_ge (tgt := 39) dX5_moveAll_5 (by decide) (fun c9 => absurd c9 (nI_ge hi (by decide))) (fun _ => ?_)
    refine ok_iload_n dX5_moveAll_8 rfl rfl ?_
    refine ok_if_eq (tgt := 24) dX5_moveAll_9 (by decide) (fun c9 => absurd c9 (by decide)) (fun _ => ?_)
    refine ok_aload_n dX5_moveAll_12 rfl rfl ?_
    refine ok_iload_n dX5_moveAll_13 rfl rfl ?_
    refine ok_aload_n dX5_moveAll_14 rfl rfl ?_
    refine ok_getR dX5_moveAll_15 f_X5_7 (by first | exact is_lit hv (by decide) rfl | exact is_sq hv hq | exact is_row hv hq | exact is_pn hv hq (by assumption) | assumption) rfl (by first | exact rf hv rfl | exact rf_row hv hq | assumption) ?_
    refine ok_iload_n dX5_moveAll_18 rfl rfl ?_
    refine ok_iaload dX5_moveAll_19 (is_lit hv (by decide) rfl) (vp_in_nI hi (by decide)) ?_
    rw [nI_clamp (by omega), show hI (cpI h0 50 a i) 50 i = h0.1 50 i from cpI_at (fun e => hne e.symm)]
    refine ok_iastore dX5_moveAll_20 (is_sto hv ha) (vp_in_nI hi (by decide)) ?_
    refine ok_goto (tgt := 33) dX5_moveAll_21 (by decide) ?_
    refine ok_iinc (v := _ + 1) (lo' := [_, _, _, _]) dX5_moveAll_33 rfl rfl (Nat.le_of_ble_eq_true rfl) rfl rfl ?_
    refine ok_goto (tgt := 2) dX5_moveAll_36 (by decide) ?_
    rw [nI_1, nI_clamp (by omega), cpI_s]
    exact ih (i + 1) (by omega)
theorem sp_X5_moveAll_k {g : GG} {h : Hp} {Post : Option Value → Hp → Prop} (hv : Inv h) {a : Nat} (ha : Sto a) (K : Post none (cpI h 50 a 77)) : Sp g mX5_moveAll [.ref 49, .int 1, .ref a] h Post := by
  show Go g mX5_moveAll 0 [_, _, _, _] [] _ _ _
  refine ok_iconst (v := 0) dX5_moveAll_0 (by decide) ?_
  refine ok_istore_n (lo' := [_, _, _, _]) dX5_moveAll_1 rfl (Nat.le_of_ble_eq_true rfl) rfl rfl ?_
  have L := lp_X5_moveAll_2k (g := g) hv ha K 77 0 (by omega)
  rw [cpI_0] at L
  exact L
theorem lp_X5_moveAll_2r {g : GG} {h0 : Hp} {Post : Option Value → Hp → Prop} (hv0 : Inv h0) {a : Nat} (ha : Sto a) (K : Post none (cpI h0 a 50 77)) : ∀ (k i : Nat), i + k = 77 → Go g mX5_moveAll 2 [some (.ref 49), some (.int 0), some (.ref a), some (.int (nI i))] [] (cpI h0 a 50 i) (0, 0) Post := by
  intro k
  induction k with
  | zero =>
    intro i  hik 
    obtain rfl : i = 77 := by omega
    refine ok_iload_n dX5_moveAll_2 rfl rfl ?_
    refine ok_bipush (v := 77) dX5_moveAll_3 (by decide) ?_
    refine ok_icmp_ge (tgt := 39) dX5_moveAll_5 (by decide) (fun _ => ?_) (fun c9 => absurd (by decide) c9)
    refine ok_return dX5_moveAll_39 rfl ?_
    exact K
  | succ k ih =>
    intro i  hik 
    have hi : i < 77 := by omega
    have hv : Inv (cpI h0 a 50 i) := hv0
    have hne : a ≠ 50 := by rcases ha with rfl | rfl | rfl <;> decide
    refine ok_iload_n dX5_moveAll_2 rfl rfl ?_
    refine ok_bipush (v := 77) dX5_moveAll_3 (by decide) ?_
    refine ok_icmp_ge (tgt := 39) dX5_moveAll_5 (by decide) (fun c9 => absurd c9 (nI_ge hi (by decide))) (fun _ => ?_)
    refine ok_iload_n dX5_moveAll_8 rfl rfl ?_
    refine ok_if_eq (tgt := 24) dX5_moveAll_9 (by decide) (fun _ => ?_) (fun c9 => absurd rfl c9)
    refine ok_aload_n dX5_moveAll_24 rfl rfl ?_
    refine ok_getR dX5_moveAll_25 f_X5_7 (by first | exact is_lit hv (by decide) rfl | exact is_sq hv hq | exact is_row hv hq | exact is_pn hv hq (by assumption) | assumption) rfl (by first | exact rf hv rfl | exact rf_row hv hq | assumption) ?_
    refine ok_iload_n dX5_moveAll_28 rfl rfl ?_
    refine ok_aload_n dX5_moveAll_29 rfl rfl ?_
    refine ok_iload_n dX5_moveAll_30 rfl rfl ?_
    refine ok_iaload dX5_moveAll_31 (is_sto hv ha) (vp_in_nI hi (by decide)) ?_
    rw [nI_clamp (by omega), show hI (cpI h0 a 50 i) a i = h0.1 a i from cpI_at hne]
    refine ok_iastore dX5_moveAll_32 (is_lit hv (by decide) rfl) (vp_in_nI hi (by decide)) ?_
    refine ok_iinc (v := _ + 1) (lo' := [_, _, _, _]) dX5_moveAll_33 rfl rfl (Nat.le_of_ble_eq_true rfl) rfl rfl ?_
    refine ok_goto (tgt := 2) dX5_moveAll_36 (by decide) ?_
    rw [nI_1, nI_clamp (by omega), cpI_s]
    exact ih (i + 1) (by omega)
theorem sp_X5_moveAll_r {g : GG} {h : Hp} {Post : Option Value → Hp → Prop} (hv : Inv h) {a : Nat} (ha : Sto a) (K : Post none (cpI h a 50 77)) : Sp g mX5_moveAll [.ref 49, .int 0, .ref a] h Post := by
  show Go g mX5_moveAll 0 [_, _, _, _] [] _ _ _
  refine ok_iconst (v := 0) dX5_moveAll_0 (by decide) ?_
  refine ok_istore_n (lo' := [_, _, _, _]) dX5_moveAll_1 rfl (Nat.le_of_ble_eq_true rfl) rfl rfl ?_
  have L := lp_X5_moveAll_2r (g := g) hv ha K 77 0 (by omega)
  rw [cpI_0] at L
  exact L
theorem add_rm {h : Hp} {n : Nat} {r v : Nat → Int32} (R : RM 50 h n r) (hn : n < 10) (h4 : v 4 = 0) (h5 : v 5 = 0) (h6 : v 6 = 0) :
    RM 50 (uI (uI (uI (uI (uI (uI (uI (uI h 50 (7 + 7 * n + 0) (v 0)) 50 (7 + 7 * n + 1) (v 1)) 50 (7 + 7 * n + 2) (v 2)) 50 (7 + 7 * n + 3) (v 3)) 50 (7 + 7 * n + 4) 0) 50 (7 + 7 * n + 5) 0) 50 (7 + 7 * n + 6) 0) 50 0 (nI (n + 1))) (n + 1) (w_join r n v) := by
  obtain ⟨a, b, c, d⟩ := R
  refine ⟨by omega, if_pos rfl, fun k hk => ?_, fun p f hp hf => ?_⟩
  · simp only [at_uo]
    unfold w_join
    by_cases e : k = 0
    · rw [if_pos e, if_pos e]
    · rw [if_neg e, if_neg (by omega), if_neg (by omega), if_neg (by omega), if_neg (by omega), if_neg (by omega), if_neg (by omega), if_neg (by omega), if_neg e, if_neg (by omega)]
      exact c k hk
  · rw [ro_join (by omega) hf]
    simp only [at_uo]
    rw [if_neg (by omega)]
    by_cases e : p = n
    · subst e
      rw [if_pos rfl]
      rcases (show f = 0 ∨ f = 1 ∨ f = 2 ∨ f = 3 ∨ f = 4 ∨ f = 5 ∨ f = 6 by omega) with rfl | rfl | rfl | rfl | rfl | rfl | rfl <;> simp [h4, h5, h6]
    · rw [if_neg e, if_neg (by omega), if_neg (by omega), if_neg (by omega), if_neg (by omega), if_neg (by omega), if_neg (by omega), if_neg (by omega)]
      exact d p f (by omega) hf
theorem sp_X5_addOne {g : GG} {h : Hp} {Post : Option Value → Hp → Prop} (hv : Inv h) {n : Nat} {r : Nat → Int32} (R : RM 50 h n r) (hn : n < 10) {v : Nat → Int32} (h4 : v 4 = 0) (h5 : v 5 = 0) (h6 : v 6 = 0) (K : ∀ h', QR h h' → RM 50 h' (n + 1) (w_join r n v) → Post none h') : Sp g mX5_addOne [.ref 49, .int (v 0), .int (v 1), .int (v 2), .int (v 3)] h Post := by
  show Go g mX5_addOne 0 [_, _, _, _, _, _] [] _ _ _
  refine ok_aload_n dX5_addOne_0 rfl rfl ?_
  refine ok_getR dX5_addOne_1 f_X5_7 (by first | exact is_lit hv (by decide) rfl | exact is_sq hv hq | exact is_row hv hq | exact is_pn hv hq (by assumption) | assumption) rfl (by first | exact rf hv rfl | exact rf_row hv hq | assumption) ?_
  refine ok_iconst (v := 0) dX5_addOne_4 (by decide) ?_
  refine ok_iaload dX5_addOne_5 (is_lit hv (by decide) rfl) (by unfold vp_in; decide) ?_
  rw [show hI h 50 (Int32.toNatClampNeg 0) = nI n from (R.2.2.1 0 (by decide)).trans R.2.1]
  refine ok_istore (lo' := [_, _, _, _, _, _]) dX5_addOne_6 (Nat.le_of_ble_eq_true rfl) rfl rfl ?_
  refine ok_aload_n dX5_addOne_8 rfl rfl ?_
  refine ok_iload dX5_addOne_9 rfl ?_
  refine ok_iconst (v := 0) dX5_addOne_11 (by decide) ?_
  refine ok_iload_n dX5_addOne_12 rfl rfl ?_
  refine ok_callV (M' := mX5_sets) (b' := (0, 0)) (As := [_, _, _]) (cx := 5) dX5_addOne_13 iX5_sets w_859 (by decide) rfl (by first | exact is_lit hv (by decide) rfl | exact is_sq hv hq | exact is_row hv hq | exact is_pn hv hq (by assumption) | assumption) rfl (Nat.le_of_ble_eq_true rfl) ⟨Nat.le_of_ble_eq_true rfl, Nat.le_of_ble_eq_true rfl⟩ (Nat.le_of_ble_eq_true rfl) rfl rfl ?_
  refine sp_X5_sets (p := n) (f := 0) (by exact hv) hn (by decide) _ ?_
  refine ok_aload_n dX5_addOne_16 rfl rfl ?_
  refine ok_iload dX5_addOne_17 rfl ?_
  refine ok_iconst (v := 1) dX5_addOne_19 (by decide) ?_
  refine ok_iload_n dX5_addOne_20 rfl rfl ?_
  refine ok_callV (M' := mX5_sets) (b' := (0, 0)) (As := [_, _, _]) (cx := 5) dX5_addOne_21 iX5_sets w_859 (by decide) rfl (by first | exact is_lit hv (by decide) rfl | exact is_sq hv hq | exact is_row hv hq | exact is_pn hv hq (by assumption) | assumption) rfl (Nat.le_of_ble_eq_true rfl) ⟨Nat.le_of_ble_eq_true rfl, Nat.le_of_ble_eq_true rfl⟩ (Nat.le_of_ble_eq_true rfl) rfl rfl ?_
  refine sp_X5_sets (p := n) (f := 1) (by exact hv) hn (by decide) _ ?_
  refine ok_aload_n dX5_addOne_24 rfl rfl ?_
  refine ok_iload dX5_addOne_25 rfl ?_
  refine ok_iconst (v := 2) dX5_addOne_27 (by decide) ?_
  refine ok_iload_n dX5_addOne_28 rfl rfl ?_
  refine ok_callV (M' := mX5_sets) (b' := (0, 0)) (As := [_, _, _]) (cx := 5) dX5_addOne_29 iX5_sets w_859 (by decide) rfl (by first | exact is_lit hv (by decide) rfl | exact is_sq hv hq | exact is_row hv hq | exact is_pn hv hq (by assumption) | assumption) rfl (Nat.le_of_ble_eq_true rfl) ⟨Nat.le_of_ble_eq_true rfl, Nat.le_of_ble_eq_true rfl⟩ (Nat.le_of_ble_eq_true rfl) rfl rfl ?_
  refine sp_X5_sets (p := n) (f := 2) (by exact hv) hn (by decide) _ ?_
  refine ok_aload_n dX5_addOne_32 rfl rfl ?_
  refine ok_iload dX5_addOne_33 rfl ?_
  refine ok_iconst (v := 3) dX5_addOne_35 (by decide) ?_
  refine ok_iload dX5_addOne_36 rfl ?_
  refine ok_callV (M' := mX5_sets) (b' := (0, 0)) (As := [_, _, _]) (cx := 5) dX5_addOne_38 iX5_sets w_859 (by decide) rfl (by first | exact is_lit hv (by decide) rfl | exact is_sq hv hq | exact is_row hv hq | exact is_pn hv hq (by assumption) | assumption) rfl (Nat.le_of_ble_eq_true rfl) ⟨Nat.le_of_ble_eq_true rfl, Nat.le_of_ble_eq_true rfl⟩ (Nat.le_of_ble_eq_true rfl) rfl rfl ?_
  refine sp_X5_sets (p := n) (f := 3) (by exact hv) hn (by decide) _ ?_
  refine ok_aload_n dX5_addOne_41 rfl rfl ?_
  refine ok_iload dX5_addOne_42 rfl ?_
  refine ok_iconst (v := 4) dX5_addOne_44 (by decide) ?_
  refine ok_iconst (v := 0) dX5_addOne_45 (by decide) ?_
  refine ok_callV (M' := mX5_sets) (b' := (0, 0)) (As := [_, _, _]) (cx := 5) dX5_addOne_46 iX5_sets w_859 (by decide) rfl (by first | exact is_lit hv (by decide) rfl | exact is_sq hv hq | exact is_row hv hq | exact is_pn hv hq (by assumption) | assumption) rfl (Nat.le_of_ble_eq_true rfl) ⟨Nat.le_of_ble_eq_true rfl, Nat.le_of_ble_eq_true rfl⟩ (Nat.le_of_ble_eq_true rfl) rfl rfl ?_
  refine sp_X5_sets (p := n) (f := 4) (by exact hv) hn (by decide) _ ?_
  refine ok_aload_n dX5_addOne_49 rfl rfl ?_
  refine ok_iload dX5_addOne_50 rfl ?_
  refine ok_iconst (v := 5) dX5_addOne_52 (by decide) ?_
  refine ok_iconst (v := 0) dX5_addOne_53 (by decide) ?_
  refine ok_callV (M' := mX5_sets) (b' := (0, 0)) (As := [_, _, _]) (cx := 5) dX5_addOne_54 iX5_sets w_859 (by decide) rfl (by first | exact is_lit hv (by decide) rfl | exact is_sq hv hq | exact is_row hv hq | exact is_pn hv hq (by assumption) | assumption) rfl (Nat.le_of_ble_eq_true rfl) ⟨Nat.le_of_ble_eq_true rfl, Nat.le_of_ble_eq_true rfl⟩ (Nat.le_of_ble_eq_true rfl) rfl rfl ?_
  refine sp_X5_sets (p := n) (f := 5) (by exact hv) hn (by decide) _ ?_
  refine ok_aload_n dX5_addOne_57 rfl rfl ?_
  refine ok_iload dX5_addOne_58 rfl ?_
  refine ok_bipush (v := 6) dX5_addOne_60 (by decide) ?_
  refine ok_iconst (v := 0) dX5_addOne_62 (by decide) ?_
  refine ok_callV (M' := mX5_sets) (b' := (0, 0)) (As := [_, _, _]) (cx := 5) dX5_addOne_63 iX5_sets w_859 (by decide) rfl (by first | exact is_lit hv (by decide) rfl | exact is_sq hv hq | exact is_row hv hq | exact is_pn hv hq (by assumption) | assumption) rfl (Nat.le_of_ble_eq_true rfl) ⟨Nat.le_of_ble_eq_true rfl, Nat.le_of_ble_eq_true rfl⟩ (Nat.le_of_ble_eq_true rfl) rfl rfl ?_
  refine sp_X5_sets (p := n) (f := 6) (by exact hv) hn (by decide) _ ?_
  refine ok_aload_n dX5_addOne_66 rfl rfl ?_
  refine ok_getR dX5_addOne_67 f_X5_7 (by first | exact is_lit hv (by decide) rfl | exact is_sq hv hq | exact is_row hv hq | exact is_pn hv hq (by assumption) | assumption) rfl (by first | exact rf hv rfl | exact rf_row hv hq | assumption) ?_
  refine ok_iconst (v := 0) dX5_addOne_70 (by decide) ?_
  refine ok_dup2 dX5_addOne_71 rfl rfl ?_
  refine ok_iaload dX5_addOne_72 (is_lit hv (by decide) rfl) (by unfold vp_in; decide) ?_
  refine ok_iconst (v := 1) dX5_addOne_73 (by decide) ?_
  refine ok_iadd dX5_addOne_74 ?_
  refine ok_iastore dX5_addOne_75 (is_lit hv (by decide) rfl) (by unfold vp_in; decide) ?_
  refine ok_return dX5_addOne_76 rfl ?_
  have z0 : hI (uI (uI (uI (uI (uI (uI (uI h 50 (7 + 7 * n + 0) (v 0)) 50 (7 + 7 * n + 1) (v 1)) 50 (7 + 7 * n + 2) (v 2)) 50 (7 + 7 * n + 3) (v 3)) 50 (7 + 7 * n + 4) 0) 50 (7 + 7 * n + 5) 0) 50 (7 + 7 * n + 6) 0) 50 (Int32.toNatClampNeg 0) = nI n := by
    rw [show Int32.toNatClampNeg 0 = 0 from rfl]
    simp only [at_uo]
    rw [if_neg (by omega), if_neg (by omega), if_neg (by omega), if_neg (by omega), if_neg (by omega), if_neg (by omega), if_neg (by omega)]
    exact (R.2.2.1 0 (by decide)).trans R.2.1
  rw [z0, nI_1]
  exact K _ (((((((((QR.rf (h := h)).u (a := 50) (by omega)).u (a := 50) (by omega)).u (a := 50) (by omega)).u (a := 50) (by omega)).u (a := 50) (by omega)).u (a := 50) (by omega)).u (a := 50) (by omega)).u (a := 50) (by omega)) (add_rm R hn h4 h5 h6)
def w_ch (r : Nat → Int32) (p q i : Nat) : Nat → Int32 := mkr r (fun x f => if f < i then ro r (sw p q x) f else ro r x f)
theorem ch_0 {h : Hp} {n p q : Nat} {r : Nat → Int32} (R : RM 50 h n r) : RM 50 h n (w_ch r p q 0) := R.congr (fun k hk => (mk_s hk).symm) (fun x f hx hf => by rw [w_ch, ro_mk hf, if_neg (by omega)])
theorem ch_7 {h : Hp} {n p q : Nat} {r : Nat → Int32} (R : RM 50 h n (w_ch r p q 7)) : RM 50 h n (w_pm r (sw p q)) := R.congr (fun k hk => by rw [w_ch, mk_s hk, w_pm, mk_s hk]) (fun x f hx hf => by rw [w_ch, ro_mk hf, if_pos hf, w_pm, ro_mk hf])
theorem ro_ch {r : Nat → Int32} {p q i x : Nat} (hi : i < 7) : ro (w_ch r p q i) x i = ro r x i := by rw [w_ch, ro_mk hi, if_neg (by omega)]
theorem ch_s {h : Hp} {n p q i : Nat} {r : Nat → Int32} (hi : i < 7) (hpq : p ≠ q) (R : RM 50 h n (w_set (w_set (w_ch r p q i) (7 + 7 * p + i) (ro r q i)) (7 + 7 * q + i) (ro r p i))) : RM 50 h n (w_ch r p q (i + 1)) := by
  refine R.congr (fun k hk => ?_) (fun x f hx hf => ?_)
  · unfold w_set
    rw [if_neg (by omega), if_neg (by omega), w_ch, mk_s hk, w_ch, mk_s hk]
  · rw [ro_sp hi hf, ro_sp hi hf, w_ch, ro_mk hf, w_ch, ro_mk hf]
    by_cases e : f = i
    · subst e
      rw [if_pos (show f < f + 1 by omega), if_neg (show ¬ f < f by omega)]
      unfold sw
      by_cases e1 : x = q
      · rw [if_pos ⟨e1, rfl⟩, if_neg (by omega), if_pos e1]
      · rw [if_neg (fun c => e1 c.1)]
        by_cases e2 : x = p
        · rw [if_pos ⟨e2, rfl⟩, if_pos e2]
        · rw [if_neg (fun c => e2 c.1), if_neg e2, if_neg e1]
    · rw [if_neg (fun c => e c.2), if_neg (fun c => e c.2)]
      by_cases e2 : f < i
      · rw [if_pos e2, if_pos (by omega)]
      · rw [if_neg e2, if_neg (by omega)]
theorem lp_X5_change_2 {g : GG} {h0 : Hp} {Post : Option Value → Hp → Prop} (hv0 : Inv h0) {n : Nat} (hn : n ≤ 10) {r : Nat → Int32} {p q : Nat} (hp : p < n) (hq : q < n) (hpq : p ≠ q) (K : ∀ h', QR h0 h' → RM 50 h' n (w_pm r (sw p q)) → Post none h') : ∀ (k i : Nat) (h : Hp) (x4 : Option Value), i + k = 7 → QR h0 h → RM 50 h n (w_ch r p q i) → Go g mX5_change 2 [some (.ref 49), some (.int (nI p)), some (.int (nI q)), some (.int (nI i)), x4] [] h (0, 0) Post := by
  intro k
  induction k with
  | zero =>
    intro i h x4 hik M R
    obtain rfl : i = 7 := by omega
    refine ok_iload_n dX5_change_2 rfl rfl ?_
    refine ok_bipush (v := 7) dX5_change_3 (by decide) ?_
    refine ok_icmp_ge (tgt := 42) dX5_change_5 (by decide) (fun _ => ?_) (fun c9 => absurd (by decide) c9)
    refine ok_return dX5_change_42 rfl ?_
    exact K h M (ch_7 R)
  | succ k ih =>
    intro i h x4 hik M R
    have hi : i < 7 := by omega
    have hv := M.inv hv0
    refine ok_iload_n dX5_change_2 rfl rfl ?_
    refine ok_bipush (v := 7) dX5_change_3 (by decide) ?_
    refine ok_icmp_ge (tgt := 42) dX5_change_5 (by decide) (fun c9 => absurd c9 (nI_ge hi (by decide))) (fun _ => ?_)
    refine ok_aload_n dX5_change_8 rfl rfl ?_
    refine ok_iload_n dX5_change_9 rfl rfl ?_
    refine ok_iload_n dX5_change_10 rfl rfl ?_
    refine ok_callV (M' := mX5_its) (b' := (0, 0)) (As := [_, _]) (cx := 5) dX5_change_11 iX5_its w_871 (by decide) rfl (by first | exact is_lit hv (by decide) rfl | exact is_sq hv hq | exact is_row hv hq | exact is_pn hv hq (by assumption) | assumption) rfl (Nat.le_of_ble_eq_true rfl) ⟨Nat.le_of_ble_eq_true rfl, Nat.le_of_ble_eq_true rfl⟩ (Nat.le_of_ble_eq_true rfl) rfl rfl ?_
    refine sp_X5_its hv R hp hi ?_
    rw [ro_ch hi]
    refine ok_istore (lo' := [_, _, _, _, _]) dX5_change_14 (Nat.le_of_ble_eq_true rfl) rfl rfl ?_
    refine ok_aload_n dX5_change_16 rfl rfl ?_
    refine ok_iload_n dX5_change_17 rfl rfl ?_
    refine ok_iload_n dX5_change_18 rfl rfl ?_
    refine ok_aload_n dX5_change_19 rfl rfl ?_
    refine ok_iload_n dX5_change_20 rfl rfl ?_
    refine ok_iload_n dX5_change_21 rfl rfl ?_
    refine ok_callV (M' := mX5_its) (b' := (0, 0)) (As := [_, _]) (cx := 5) dX5_change_22 iX5_its w_871 (by decide) rfl (by first | exact is_lit hv (by decide) rfl | exact is_sq hv hq | exact is_row hv hq | exact is_pn hv hq (by assumption) | assumption) rfl (Nat.le_of_ble_eq_true rfl) ⟨Nat.le_of_ble_eq_true rfl, Nat.le_of_ble_eq_true rfl⟩ (Nat.le_of_ble_eq_true rfl) rfl rfl ?_
    refine sp_X5_its hv R hq hi ?_
    rw [ro_ch hi]
    refine ok_callV (M' := mX5_sets) (b' := (0, 0)) (As := [_, _, _]) (cx := 5) dX5_change_25 iX5_sets w_859 (by decide) rfl (by first | exact is_lit hv (by decide) rfl | exact is_sq hv hq | exact is_row hv hq | exact is_pn hv hq (by assumption) | assumption) rfl (Nat.le_of_ble_eq_true rfl) ⟨Nat.le_of_ble_eq_true rfl, Nat.le_of_ble_eq_true rfl⟩ (Nat.le_of_ble_eq_true rfl) rfl rfl ?_
    refine sp_X5_sets (by exact hv) (by omega) hi _ ?_
    refine ok_aload_n dX5_change_28 rfl rfl ?_
    refine ok_iload_n dX5_change_29 rfl rfl ?_
    refine ok_iload_n dX5_change_30 rfl rfl ?_
    refine ok_iload dX5_change_31 rfl ?_
    refine ok_callV (M' := mX5_sets) (b' := (0, 0)) (As := [_, _, _]) (cx := 5) dX5_change_33 iX5_sets w_859 (by decide) rfl (by first | exact is_lit hv (by decide) rfl | exact is_sq hv hq | exact is_row hv hq | exact is_pn hv hq (by assumption) | assumption) rfl (Nat.le_of_ble_eq_true rfl) ⟨Nat.le_of_ble_eq_true rfl, Nat.le_of_ble_eq_true rfl⟩ (Nat.le_of_ble_eq_true rfl) rfl rfl ?_
    refine sp_X5_sets (by exact hv) (by omega) hi _ ?_
    refine ok_iinc (v := _ + 1) (lo' := [_, _, _, _, _]) dX5_change_36 rfl rfl (Nat.le_of_ble_eq_true rfl) rfl rfl ?_
    refine ok_goto (tgt := 2) dX5_change_39 (by decide) ?_
    rw [nI_1]
    exact ih (i + 1) _ _ (by omega) ((M.u (a := 50) (by omega)).u (a := 50) (by omega)) (ch_s hi hpq ((R.u (by omega)).u (by omega)))
theorem sp_X5_change {g : GG} {h : Hp} {Post : Option Value → Hp → Prop} (hv : Inv h) {n : Nat} {r : Nat → Int32} (R : RM 50 h n r) {p q : Nat} (hp : p < n) (hq : q < n) (hpq : p ≠ q) (K : ∀ h', QR h h' → RM 50 h' n (w_pm r (sw p q)) → Post none h') : Sp g mX5_change [.ref 49, .int (nI p), .int (nI q)] h Post := by
  show Go g mX5_change 0 [_, _, _, _, _] [] _ _ _
  refine ok_iconst (v := 0) dX5_change_0 (by decide) ?_
  refine ok_istore_n (lo' := [_, _, _, _, _]) dX5_change_1 rfl (Nat.le_of_ble_eq_true rfl) rfl rfl ?_
  exact lp_X5_change_2 hv R.1 hp hq hpq K 7 0 h _ (by omega) QR.rf (ch_0 R)
theorem mv_up {f i p : Nat} (hf : f ≤ i) : mv f i (sw i (i + 1) p) = mv f (i + 1) p := by
  unfold mv sw
  split <;> split <;> (try split) <;> (try split) <;> (try split) <;> (try split) <;> (try split) <;> (try split) <;> omega
theorem mv_dn {f i p : Nat} (hf : i + 1 ≤ f) : mv f (i + 1) (sw (i + 1) i p) = mv f i p := by
  unfold mv sw
  split <;> split <;> (try split) <;> (try split) <;> (try split) <;> (try split) <;> (try split) <;> (try split) <;> omega
theorem mv_id {f p : Nat} : mv f f p = p := by
  unfold mv
  split
  · omega
  · split
    · omega
    · split <;> omega
theorem pm_2 {h : Hp} {n : Nat} {r : Nat → Int32} {a b c : Nat → Nat} (R : RM 50 h n (w_pm (w_pm r a) b)) (e : ∀ p, p < n → a (b p) = c p) : RM 50 h n (w_pm r c) := R.congr (fun k hk => by rw [w_pm, mk_s hk, w_pm, mk_s hk, w_pm, mk_s hk]) (fun p f hp hf => by rw [w_pm, ro_mk hf, w_pm, ro_mk hf, w_pm, ro_mk hf, e p hp])
theorem pm_id {h : Hp} {n f : Nat} {r : Nat → Int32} (R : RM 50 h n r) : RM 50 h n (w_pm r (mv f f)) := R.congr (fun k hk => by rw [w_pm, mk_s hk]) (fun p e hp he => by rw [w_pm, ro_mk he, mv_id])
theorem lp_X5_goTo_23 {g : GG} {h0 : Hp} {Post : Option Value → Hp → Prop} (hv0 : Inv h0) {n : Nat} (hn : n ≤ 10) {r : Nat → Int32} {f t : Nat} (hf : f < n) (ht : t < n) (K : ∀ h', QR h0 h' → RM 50 h' n (w_pm r (mv f t)) → Post none h') : ∀ (d i : Nat) (h : Hp), i = t + d → i ≤ f → QR h0 h → RM 50 h n (w_pm r (mv f i)) → Go g mX5_goTo 23 [some (.ref 49), some (.int (nI f)), some (.int (nI t)), some (.int (nI i))] [] h (0, 0) Post := by
  intro d
  induction d with
  | zero =>
    intro i h hd hi M R
    obtain rfl : i = t := by omega
    refine ok_iload_n dX5_goTo_23 rfl rfl ?_
    refine ok_iload_n dX5_goTo_24 rfl rfl ?_
    refine ok_icmp_le (tgt := 42) dX5_goTo_25 (by decide) (fun _ => ?_) (fun c9 => absurd (nI_le (Nat.le_refl _) (by omega)) c9)
    refine ok_return dX5_goTo_42 rfl ?_
    exact K h M R
  | succ d ih =>
    intro i h hd hi M R
    obtain ⟨j, rfl⟩ : ∃ j, i = j + 1 := ⟨i - 1, by omega⟩
    have hv := M.inv hv0
    refine ok_iload_n dX5_goTo_23 rfl rfl ?_
    refine ok_iload_n dX5_goTo_24 rfl rfl ?_
    refine ok_icmp_le (tgt := 42) dX5_goTo_25 (by decide) (fun c9 => absurd c9 (nI_ge (show t < j + 1 by omega) (by omega))) (fun _ => ?_)
    refine ok_aload_n dX5_goTo_28 rfl rfl ?_
    refine ok_iload_n dX5_goTo_29 rfl rfl ?_
    refine ok_iload_n dX5_goTo_30 rfl rfl ?_
    refine ok_iconst (v := 1) dX5_goTo_31 (by decide) ?_
    refine ok_isub dX5_goTo_32 ?_
    rw [nI_p1 (by omega)]
    refine ok_callV (M' := mX5_change) (b' := (0, 0)) (As := [_, _]) (cx := 5) dX5_goTo_33 iX5_change w_914 (by decide) rfl (by first | exact is_lit hv (by decide) rfl | exact is_sq hv hq | exact is_row hv hq | exact is_pn hv hq (by assumption) | assumption) rfl (Nat.le_of_ble_eq_true rfl) ⟨Nat.le_of_ble_eq_true rfl, Nat.le_of_ble_eq_true rfl⟩ (Nat.le_of_ble_eq_true rfl) rfl rfl ?_
    refine sp_X5_change hv R (p := j + 1) (q := j) (by omega) (by omega) (by omega) (fun h1 M1 R1 => ?_)
    refine ok_iinc (v := _ + (-1)) (lo' := [_, _, _, _]) dX5_goTo_36 rfl rfl (Nat.le_of_ble_eq_true rfl) rfl rfl ?_
    refine ok_goto (tgt := 23) dX5_goTo_39 (by decide) ?_
    rw [nI_m1, nI_p1 (by omega)]
    exact ih j h1 (by omega) (by omega) (M.tr M1) (pm_2 R1 (fun p _ => mv_dn hi))
theorem lp_X5_goTo_2 {g : GG} {h0 : Hp} {Post : Option Value → Hp → Prop} (hv0 : Inv h0) {n : Nat} (hn : n ≤ 10) {r : Nat → Int32} {f t : Nat} (hf : f < n) (ht : t < n) (K : ∀ h', QR h0 h' → RM 50 h' n (w_pm r (mv f t)) → Post none h') : ∀ (d i : Nat) (h : Hp), i + d = t → f ≤ i → QR h0 h → RM 50 h n (w_pm r (mv f i)) → Go g mX5_goTo 2 [some (.ref 49), some (.int (nI f)), some (.int (nI t)), some (.int (nI i))] [] h (0, 0) Post := by
  intro d
  induction d with
  | zero =>
    intro i h hd hi M R
    obtain rfl : i = t := by omega
    refine ok_iload_n dX5_goTo_2 rfl rfl ?_
    refine ok_iload_n dX5_goTo_3 rfl rfl ?_
    refine ok_icmp_ge (tgt := 21) dX5_goTo_4 (by decide) (fun _ => ?_) (fun c9 => absurd (nI_le (Nat.le_refl _) (by omega)) c9)
    refine ok_iload_n dX5_goTo_21 rfl rfl ?_
    refine ok_istore_n (lo' := [_, _, _, _]) dX5_goTo_22 rfl (Nat.le_of_ble_eq_true rfl) rfl rfl ?_
    refine ok_iload_n dX5_goTo_23 rfl rfl ?_
    refine ok_iload_n dX5_goTo_24 rfl rfl ?_
    refine ok_icmp_le (tgt := 42) dX5_goTo_25 (by decide) (fun _ => ?_) (fun c9 => absurd (nI_le hi (by omega)) c9)
    refine ok_return dX5_goTo_42 rfl ?_
    exact K h M R
  | succ d ih =>
    intro i h hd hi M R
    have hv := M.inv hv0
    refine ok_iload_n dX5_goTo_2 rfl rfl ?_
    refine ok_iload_n dX5_goTo_3 rfl rfl ?_
    refine ok_icmp_ge (tgt := 21) dX5_goTo_4 (by decide) (fun c9 => absurd c9 (nI_ge (show i < t by omega) (by omega))) (fun _ => ?_)
    refine ok_aload_n dX5_goTo_7 rfl rfl ?_
    refine ok_iload_n dX5_goTo_8 rfl rfl ?_
    refine ok_iload_n dX5_goTo_9 rfl rfl ?_
    refine ok_iconst (v := 1) dX5_goTo_10 (by decide) ?_
    refine ok_iadd dX5_goTo_11 ?_
    rw [nI_1]
    refine ok_callV (M' := mX5_change) (b' := (0, 0)) (As := [_, _]) (cx := 5) dX5_goTo_12 iX5_change w_914 (by decide) rfl (by first | exact is_lit hv (by decide) rfl | exact is_sq hv hq | exact is_row hv hq | exact is_pn hv hq (by assumption) | assumption) rfl (Nat.le_of_ble_eq_true rfl) ⟨Nat.le_of_ble_eq_true rfl, Nat.le_of_ble_eq_true rfl⟩ (Nat.le_of_ble_eq_true rfl) rfl rfl ?_
    refine sp_X5_change hv R (p := i) (q := i + 1) (by omega) (by omega) (by omega) (fun h1 M1 R1 => ?_)
    refine ok_iinc (v := _ + 1) (lo' := [_, _, _, _]) dX5_goTo_15 rfl rfl (Nat.le_of_ble_eq_true rfl) rfl rfl ?_
    refine ok_goto (tgt := 2) dX5_goTo_18 (by decide) ?_
    rw [nI_1]
    exact ih (i + 1) h1 (by omega) (by omega) (M.tr M1) (pm_2 R1 (fun p _ => mv_up hi))
theorem sp_X5_goTo {g : GG} {h : Hp} {Post : Option Value → Hp → Prop} (hv : Inv h) {n : Nat} {r : Nat → Int32} (R : RM 50 h n r) {f t : Nat} (hf : f < n) (ht : t < n) (K : ∀ h', QR h h' → RM 50 h' n (w_pm r (mv f t)) → Post none h') : Sp g mX5_goTo [.ref 49, .int (nI f), .int (nI t)] h Post := by
  show Go g mX5_goTo 0 [_, _, _, _] [] _ _ _
  have hn := R.1
  by_cases c : f ≤ t
  · refine ok_iload_n dX5_goTo_0 rfl rfl ?_
    refine ok_istore_n (lo' := [_, _, _, _]) dX5_goTo_1 rfl (Nat.le_of_ble_eq_true rfl) rfl rfl ?_
    exact lp_X5_goTo_2 hv hn hf ht K (t - f) f h (by omega) (Nat.le_refl _) QR.rf (pm_id R)
  · refine ok_iload_n dX5_goTo_0 rfl rfl ?_
    refine ok_istore_n (lo' := [_, _, _, _]) dX5_goTo_1 rfl (Nat.le_of_ble_eq_true rfl) rfl rfl ?_
    refine ok_iload_n dX5_goTo_2 rfl rfl ?_
    refine ok_iload_n dX5_goTo_3 rfl rfl ?_
    refine ok_icmp_ge (tgt := 21) dX5_goTo_4 (by decide) (fun _ => ?_) (fun c9 => absurd (nI_le (by omega) (by omega)) c9)
    refine ok_iload_n dX5_goTo_21 rfl rfl ?_
    refine ok_istore_n (lo' := [_, _, _, _]) dX5_goTo_22 rfl (Nat.le_of_ble_eq_true rfl) rfl rfl ?_
    exact lp_X5_goTo_23 hv hn hf ht K (f - t) f h (by omega) (Nat.le_refl _) QR.rf (pm_id R)
