/-! ===== the text: words, numbers ===== -/
def stC (i j : Nat) : Nat := ((stB.getD i []).getD j 0).toNatClampNeg
theorem st_cc : ∀ i, i < 15 → ∀ j, j < stN.getD i 0 → (stB.getD i []).getD j 0 = nI (stC i j) ∧ stC i j < 128 := by decide +kernel
/-- the token at a place is that word -/
def wis (T : Nat → Nat) (z k i : Nat) : Bool := decide (tT T z k = 1 ∧ tB T z k - tF T z k = stN.getD i 0 ∧ ∀ j, j < stN.getD i 0 → T (tF T z k + j) = stC i j)
/-- a number below -/
def num (T : Nat → Nat) (z k M : Nat) : Bool := decide (tT T z k = 2 ∧ tN T z k < M)
theorem tT_le (T : Nat → Nat) (z k : Nat) : tT T z k ≤ 5 := by
  unfold tT
  split
  · omega
  · split
    · omega
    · split
      · omega
      · rcases sgn_3 (T (tF T z k)) with e | e | e <;> omega
theorem tN_le (T : Nat → Nat) (z k : Nat) : tN T z k ≤ 1000 := nu_le _ _ _
theorem nI_inj2 {a b : Nat} (ha : a < 100000) (hb : b < 100000) : nI a = nI b ↔ a = b := by
  rw [i_eq, nI_toInt (by omega), nI_toInt (by omega)]
  omega
theorem nI_mi {a b : Nat} (ha : b ≤ a) (hb : a < 100000) : nI a - nI b = nI (a - b) := by
  rw [i_eq, fb_subI (by rw [nI_toInt (by omega), nI_toInt (by omega)]; omega) (by rw [nI_toInt (by omega), nI_toInt (by omega)]; omega), nI_toInt (by omega), nI_toInt (by omega), nI_toInt (by omega)]
  omega
def knf (T : Nat → Nat) (z k : Nat) : Nat → Nat → Int32
  | 0, _ => -1
  | m + 1, i => if wis T z k i = true then nI i else knf T z k m (i + 1)
def kn (T : Nat → Nat) (z k : Nat) : Int32 := knf T z k 6 0
theorem kn_or (T : Nat → Nat) (z k : Nat) : kn T z k = -1 ∨ Kd (kn T z k) := by
  simp only [kn, knf]
  split
  · exact Or.inr (Or.inl rfl)
  · split
    · exact Or.inr (Or.inr (Or.inl rfl))
    · split
      · exact Or.inr (Or.inr (Or.inr (Or.inl rfl)))
      · split
        · exact Or.inr (Or.inr (Or.inr (Or.inr (Or.inl rfl))))
        · split
          · exact Or.inr (Or.inr (Or.inr (Or.inr (Or.inr (Or.inl rfl)))))
          · split
            · exact Or.inr (Or.inr (Or.inr (Or.inr (Or.inr (Or.inr rfl)))))
            · exact Or.inl rfl
theorem lp_X3_isWord_28 {g : GG} {h : Hp} {Post : Option Value → Hp → Prop} (X : Gx g) {i : Nat} (hi : i < 15) (hv : Inv h) {T : Nat → Nat} {z : Nat} (B : BT h T z) {k : Nat} (hk : k ≤ z) (Tk : Tok h T z k) (hf : tF T z k + stN.getD i 0 ≤ z) (hw : tT T z k = 1 ∧ tB T z k - tF T z k = stN.getD i 0) (K : Post (some (.int (if wis T z k i = true then 1 else 0))) h) : ∀ (d j : Nat), j + d = stN.getD i 0 → (∀ x, x < j → T (tF T z k + x) = stC i x) → Go g mX3_isWord 28 [some (.ref 38), some (.ref (3000 + i)), some (.int (nI j))] [] h (0, 0) Post := by
  have hl := st_lt i hi
  obtain ⟨f1, f2⟩ := tF_le (T := T) hk
  obtain ⟨b1, b2⟩ := tB_le (T := T) hk
  have hz := B.1
  intro d
  induction d with
  | zero =>
    intro j hd A
    refine ok_iload_n dX3_isWord_28 rfl rfl ?_
    refine ok_aload_n dX3_isWord_29 rfl rfl ?_
    refine ok_callVX (M' := mJ0_length_8abf5) (b' := (0, 0)) (As := []) dX3_isWord_30 iJ0_length_8abf5 w_591 (st_rv X hi) rfl (Nat.le_of_ble_eq_true rfl) ⟨Nat.le_of_ble_eq_true rfl, Nat.le_of_ble_eq_true rfl⟩ (Nat.le_of_ble_eq_true rfl) rfl rfl ?_
    refine sp_J0_length_8abf5 X hi ?_
    refine ok_icmp_ge (tgt := 63) dX3_isWord_33 (by decide) (fun _ => ?_) (fun c9 => absurd (nI_le (by omega) (by omega)) c9)
    refine ok_iconst (v := 1) dX3_isWord_63 (by decide) ?_
    refine ok_ireturn dX3_isWord_64 rfl rfl ?_
    have w9 : wis T z k i = true := decide_eq_true ⟨hw.1, hw.2, fun x hx => A x (by omega)⟩
    rw [if_pos w9] at K
    exact K
  | succ d ih =>
    intro j hd A
    refine ok_iload_n dX3_isWord_28 rfl rfl ?_
    refine ok_aload_n dX3_isWord_29 rfl rfl ?_
    refine ok_callVX (M' := mJ0_length_8abf5) (b' := (0, 0)) (As := []) dX3_isWord_30 iJ0_length_8abf5 w_591 (st_rv X hi) rfl (Nat.le_of_ble_eq_true rfl) ⟨Nat.le_of_ble_eq_true rfl, Nat.le_of_ble_eq_true rfl⟩ (Nat.le_of_ble_eq_true rfl) rfl rfl ?_
    refine sp_J0_length_8abf5 X hi ?_
    refine ok_icmp_ge (tgt := 63) dX3_isWord_33 (by decide) (fun c9 => absurd c9 (nI_ge (by omega) (by omega))) (fun _ => ?_)
    refine ok_aload_n dX3_isWord_36 rfl rfl ?_
    refine ok_getR dX3_isWord_37 f_X3_9 (by first | exact is_lit hv (by decide) rfl | exact is_sq hv hq | exact is_row hv hq | exact is_pn hv hq (by assumption) | assumption) rfl (by first | exact rf hv rfl | exact rf_row hv hq | assumption) ?_
    refine ok_aload_n dX3_isWord_40 rfl rfl ?_
    refine ok_getI dX3_isWord_41 f_X3_22 (by first | exact is_lit hv (by decide) rfl | exact is_sq hv hq | exact is_row hv hq | exact is_pn hv hq (by assumption) | assumption) rfl ?_
    refine ok_iload_n dX3_isWord_44 rfl rfl ?_
    refine ok_iadd dX3_isWord_45 ?_
    rw [Tk.2.1, nI_pl (by omega)]
    refine ok_baload dX3_isWord_46 (is_lit hv (by decide) rfl) (vp_in_nI (by omega) (by decide)) ?_
    rw [nI_clamp (by omega), B.2.2.2 _ (by omega)]
    refine ok_aload_n dX3_isWord_47 rfl rfl ?_
    refine ok_iload_n dX3_isWord_48 rfl rfl ?_
    refine ok_callVX (M' := mJ0_charAt_5068e) (b' := (0, 0)) (As := [_]) dX3_isWord_49 iJ0_charAt_5068e w_601 (st_rv X hi) rfl (Nat.le_of_ble_eq_true rfl) ⟨Nat.le_of_ble_eq_true rfl, Nat.le_of_ble_eq_true rfl⟩ (Nat.le_of_ble_eq_true rfl) rfl rfl ?_
    refine sp_J0_charAt_5068e X hi (show j < stN.getD i 0 by omega) ?_
    rw [(st_cc i hi j (by omega)).1]
    refine ok_icmp_eq (tgt := 57) dX3_isWord_52 (by decide) (fun c_52 => ?_) (fun c_52 => ?_)
    · refine ok_iinc (v := _ + 1) (lo' := [_, _, _]) dX3_isWord_57 rfl rfl (Nat.le_of_ble_eq_true rfl) rfl rfl ?_
      refine ok_goto (tgt := 28) dX3_isWord_60 (by decide) ?_
      rw [nI_1]
      refine ih (j + 1) (by omega) (fun x hx => ?_)
      by_cases e : x = j
      · rw [e]; exact (sb_inj _ (B.2.2.1 _) _ (st_cc i hi j (by omega)).2).mp c_52
      · exact A x (by omega)
    · refine ok_iconst (v := 0) dX3_isWord_55 (by decide) ?_
      refine ok_ireturn dX3_isWord_56 rfl rfl ?_
      rw [if_neg (fun c => c_52 ((sb_inj _ (B.2.2.1 _) _ (st_cc i hi j (by omega)).2).mpr ((of_decide_eq_true c).2.2 j (by omega))))] at K
      exact K
theorem sp_X3_isWord {g : GG} {h : Hp} {Post : Option Value → Hp → Prop} (X : Gx g) {i : Nat} (hi : i < 15) (hv : Inv h) {T : Nat → Nat} {z : Nat} (B : BT h T z) {k : Nat} (hk : k ≤ z) (Tk : Tok h T z k) (K : Post (some (.int (if wis T z k i = true then 1 else 0))) h) : Sp g mX3_isWord [.ref 38, .ref (3000 + i)] h Post := by
  show Go g mX3_isWord 0 [_, _, _] [] _ _ _
  have hl := st_lt i hi
  obtain ⟨f1, f2⟩ := tF_le (T := T) hk
  obtain ⟨b1, b2⟩ := tB_le (T := T) hk
  have hz := B.1
  have t5 := tT_le T z k
  by_cases c1 : tT T z k = 1
  · by_cases c2 : tB T z k - tF T z k = stN.getD i 0
    · refine ok_aload_n dX3_isWord_0 rfl rfl ?_
      refine ok_getI dX3_isWord_1 f_X3_19 (by first | exact is_lit hv (by decide) rfl | exact is_sq hv hq | exact is_row hv hq | exact is_pn hv hq (by assumption) | assumption) rfl ?_
      refine ok_iconst (v := 1) dX3_isWord_4 (by decide) ?_
      rw [Tk.1]
      refine ok_icmp_ne (tgt := 24) dX3_isWord_5 (by decide) (fun c9 => absurd c9 (by rw [c1]; decide)) (fun _ => ?_)
      refine ok_aload_n dX3_isWord_8 rfl rfl ?_
      refine ok_getI dX3_isWord_9 f_X3_25 (by first | exact is_lit hv (by decide) rfl | exact is_sq hv hq | exact is_row hv hq | exact is_pn hv hq (by assumption) | assumption) rfl ?_
      refine ok_aload_n dX3_isWord_12 rfl rfl ?_
      refine ok_getI dX3_isWord_13 f_X3_22 (by first | exact is_lit hv (by decide) rfl | exact is_sq hv hq | exact is_row hv hq | exact is_pn hv hq (by assumption) | assumption) rfl ?_
      rw [Tk.2.2.1, Tk.2.1]
      refine ok_isub dX3_isWord_16 ?_
      rw [nI_mi b1 (by omega)]
      refine ok_aload_n dX3_isWord_17 rfl rfl ?_
      refine ok_callVX (M' := mJ0_length_8abf5) (b' := (0, 0)) (As := []) dX3_isWord_18 iJ0_length_8abf5 w_591 (st_rv X hi) rfl (Nat.le_of_ble_eq_true rfl) ⟨Nat.le_of_ble_eq_true rfl, Nat.le_of_ble_eq_true rfl⟩ (Nat.le_of_ble_eq_true rfl) rfl rfl ?_
      refine sp_J0_length_8abf5 X hi ?_
      refine ok_icmp_eq (tgt := 26) dX3_isWord_21 (by decide) (fun _ => ?_) (fun c9 => absurd (by rw [c2]) c9)
      refine ok_iconst (v := 0) dX3_isWord_26 (by decide) ?_
      refine ok_istore_n (lo' := [_, _, _]) dX3_isWord_27 rfl (Nat.le_of_ble_eq_true rfl) rfl rfl ?_
      exact lp_X3_isWord_28 X hi hv B hk Tk (by omega) ⟨c1, c2⟩ K (stN.getD i 0) 0 (by omega) (fun x hx => absurd hx (by omega))
    · refine ok_aload_n dX3_isWord_0 rfl rfl ?_
      refine ok_getI dX3_isWord_1 f_X3_19 (by first | exact is_lit hv (by decide) rfl | exact is_sq hv hq | exact is_row hv hq | exact is_pn hv hq (by assumption) | assumption) rfl ?_
      refine ok_iconst (v := 1) dX3_isWord_4 (by decide) ?_
      rw [Tk.1]
      refine ok_icmp_ne (tgt := 24) dX3_isWord_5 (by decide) (fun c9 => absurd c9 (by rw [c1]; decide)) (fun _ => ?_)
      refine ok_aload_n dX3_isWord_8 rfl rfl ?_
      refine ok_getI dX3_isWord_9 f_X3_25 (by first | exact is_lit hv (by decide) rfl | exact is_sq hv hq | exact is_row hv hq | exact is_pn hv hq (by assumption) | assumption) rfl ?_
      refine ok_aload_n dX3_isWord_12 rfl rfl ?_
      refine ok_getI dX3_isWord_13 f_X3_22 (by first | exact is_lit hv (by decide) rfl | exact is_sq hv hq | exact is_row hv hq | exact is_pn hv hq (by assumption) | assumption) rfl ?_
      rw [Tk.2.2.1, Tk.2.1]
      refine ok_isub dX3_isWord_16 ?_
      rw [nI_mi b1 (by omega)]
      refine ok_aload_n dX3_isWord_17 rfl rfl ?_
      refine ok_callVX (M' := mJ0_length_8abf5) (b' := (0, 0)) (As := []) dX3_isWord_18 iJ0_length_8abf5 w_591 (st_rv X hi) rfl (Nat.le_of_ble_eq_true rfl) ⟨Nat.le_of_ble_eq_true rfl, Nat.le_of_ble_eq_true rfl⟩ (Nat.le_of_ble_eq_true rfl) rfl rfl ?_
      refine sp_J0_length_8abf5 X hi ?_
      refine ok_icmp_eq (tgt := 26) dX3_isWord_21 (by decide) (fun c9 => absurd c9 (fun c => c2 ((nI_inj2 (by omega) (by omega)).mp c))) (fun _ => ?_)
      refine ok_iconst (v := 0) dX3_isWord_24 (by decide) ?_
      refine ok_ireturn dX3_isWord_25 rfl rfl ?_
      rw [if_neg (fun c => c2 (of_decide_eq_true c).2.1)] at K
      exact K
  · refine ok_aload_n dX3_isWord_0 rfl rfl ?_
    refine ok_getI dX3_isWord_1 f_X3_19 (by first | exact is_lit hv (by decide) rfl | exact is_sq hv hq | exact is_row hv hq | exact is_pn hv hq (by assumption) | assumption) rfl ?_
    refine ok_iconst (v := 1) dX3_isWord_4 (by decide) ?_
    rw [Tk.1]
    refine ok_icmp_ne (tgt := 24) dX3_isWord_5 (by decide) (fun _ => ?_) (fun c9 => absurd c9 (fun c => c1 ((nI_inj2 (b := 1) (by omega) (by omega)).mp c)))
    refine ok_iconst (v := 0) dX3_isWord_24 (by decide) ?_
    refine ok_ireturn dX3_isWord_25 rfl rfl ?_
    rw [if_neg (fun c => c1 (of_decide_eq_true c).1)] at K
    exact K
theorem sp_X3_nameOf {g : GG} {h : Hp} {Post : Option Value → Hp → Prop} (X : Gx g) {i : Nat} (hi : i < 6) (K : Post (some (.ref (3000 + i))) h) : Sp g mX3_nameOf [.int (nI i)] h Post := by
  show Go g mX3_nameOf 0 [_] [] _ _ _
  refine ok_iload_n dX3_nameOf_0 rfl rfl ?_
  rcases (show i = 0 ∨ i = 1 ∨ i = 2 ∨ i = 3 ∨ i = 4 ∨ i = 5 by omega) with ew | ew | ew | ew | ew | ew
  · subst ew
    refine ok_tableIn (tgt := 36) (off := 35) dX3_nameOf_1 (by decide) (by decide) (by decide) (by decide) ?_
    refine ok_ldcS (q := 3000) dX3_nameOf_36 (fun U hU => (X U hU).2.2.2.1 0 (by decide)) ?_
    refine ok_areturn dX3_nameOf_38 rfl ?_
    exact K
  · subst ew
    refine ok_tableIn (tgt := 39) (off := 38) dX3_nameOf_1 (by decide) (by decide) (by decide) (by decide) ?_
    refine ok_ldcS (q := 3001) dX3_nameOf_39 (fun U hU => (X U hU).2.2.2.1 1 (by decide)) ?_
    refine ok_areturn dX3_nameOf_41 rfl ?_
    exact K
  · subst ew
    refine ok_tableIn (tgt := 42) (off := 41) dX3_nameOf_1 (by decide) (by decide) (by decide) (by decide) ?_
    refine ok_ldcS (q := 3002) dX3_nameOf_42 (fun U hU => (X U hU).2.2.2.1 2 (by decide)) ?_
    refine ok_areturn dX3_nameOf_44 rfl ?_
    exact K
  · subst ew
    refine ok_tableIn (tgt := 45) (off := 44) dX3_nameOf_1 (by decide) (by decide) (by decide) (by decide) ?_
    refine ok_ldcS (q := 3003) dX3_nameOf_45 (fun U hU => (X U hU).2.2.2.1 3 (by decide)) ?_
    refine ok_areturn dX3_nameOf_47 rfl ?_
    exact K
  · subst ew
    refine ok_tableIn (tgt := 48) (off := 47) dX3_nameOf_1 (by decide) (by decide) (by decide) (by decide) ?_
    refine ok_ldcS (q := 3004) dX3_nameOf_48 (fun U hU => (X U hU).2.2.2.1 4 (by decide)) ?_
    refine ok_areturn dX3_nameOf_50 rfl ?_
    exact K
  · subst ew
    refine ok_tableOut (tgt := 51) dX3_nameOf_1 (by decide) (by decide) ?_
    refine ok_ldcS (q := 3005) dX3_nameOf_51 (fun U hU => (X U hU).2.2.2.1 5 (by decide)) ?_
    refine ok_areturn dX3_nameOf_53 rfl ?_
    exact K
theorem lp_X3_kindNamed_2 {g : GG} {h : Hp} {Post : Option Value → Hp → Prop} (X : Gx g) (hv : Inv h) {T : Nat → Nat} {z : Nat} (B : BT h T z) {k : Nat} (hk : k ≤ z) (Tk : Tok h T z k) : ∀ (d i : Nat), i + d = 6 → Post (some (.int (knf T z k d i))) h → Go g mX3_kindNamed 2 [some (.ref 38), some (.int (nI i))] [] h (0, 0) Post := by
  intro d
  induction d with
  | zero =>
    intro i hd K
    obtain rfl : i = 6 := by omega
    refine ok_iload_n dX3_kindNamed_2 rfl rfl ?_
    refine ok_bipush (v := 6) dX3_kindNamed_3 (by decide) ?_
    refine ok_icmp_ge (tgt := 27) dX3_kindNamed_5 (by decide) (fun _ => ?_) (fun c9 => absurd (by decide) c9)
    refine ok_iconst (v := -1) dX3_kindNamed_27 (by decide) ?_
    refine ok_ireturn dX3_kindNamed_28 rfl rfl ?_
    first | exact K | (simp only [↓reduceIte] at K; exact K)
  | succ d ih =>
    intro i hd K
    rw [knf] at K
    refine ok_iload_n dX3_kindNamed_2 rfl rfl ?_
    refine ok_bipush (v := 6) dX3_kindNamed_3 (by decide) ?_
    refine ok_icmp_ge (tgt := 27) dX3_kindNamed_5 (by decide) (fun c9 => absurd c9 (nI_ge (show i < 6 by omega) (by decide))) (fun _ => ?_)
    refine ok_aload_n dX3_kindNamed_8 rfl rfl ?_
    refine ok_iload_n dX3_kindNamed_9 rfl rfl ?_
    refine ok_callS (M' := mX3_nameOf) (b' := (0, 0)) (As := [_]) dX3_kindNamed_10 iX3_nameOf w_578 rfl (Nat.le_of_ble_eq_true rfl) ⟨Nat.le_of_ble_eq_true rfl, Nat.le_of_ble_eq_true rfl⟩ (Nat.le_of_ble_eq_true rfl) rfl rfl ?_
    refine sp_X3_nameOf X (by omega) ?_
    refine ok_callV (M' := mX3_isWord) (b' := (0, 0)) (As := [_]) (cx := 3) dX3_kindNamed_13 iX3_isWord w_587 (by decide) rfl (by first | exact is_lit hv (by decide) rfl | exact is_sq hv hq | exact is_row hv hq | exact is_pn hv hq (by assumption) | assumption) rfl (Nat.le_of_ble_eq_true rfl) ⟨Nat.le_of_ble_eq_true rfl, Nat.le_of_ble_eq_true rfl⟩ (Nat.le_of_ble_eq_true rfl) rfl rfl ?_
    refine sp_X3_isWord X (i := i) (by omega) hv B hk Tk ?_
    refine ok_if_eq (tgt := 21) dX3_kindNamed_16 (by decide) (fun c_16 => ?_) (fun c_16 => ?_)
    · refine ok_iinc (v := _ + 1) (lo' := [_, _]) dX3_kindNamed_21 rfl rfl (Nat.le_of_ble_eq_true rfl) rfl rfl ?_
      refine ok_goto (tgt := 2) dX3_kindNamed_24 (by decide) ?_
      rw [if_neg (by intro c; rw [if_pos c] at c_16; exact absurd c_16 (by decide))] at K
      rw [nI_1]
      exact ih (i + 1) (by omega) K
    · refine ok_iload_n dX3_kindNamed_19 rfl rfl ?_
      refine ok_ireturn dX3_kindNamed_20 rfl rfl ?_
      rw [if_pos (by by_cases c : wis T z k i = true; exact c; exact absurd (if_neg c) c_16)] at K
      exact K
theorem sp_X3_kindNamed {g : GG} {h : Hp} {Post : Option Value → Hp → Prop} (X : Gx g) (hv : Inv h) {T : Nat → Nat} {z : Nat} (B : BT h T z) {k : Nat} (hk : k ≤ z) (Tk : Tok h T z k) (K : Post (some (.int (kn T z k))) h) : Sp g mX3_kindNamed [.ref 38] h Post := by
  show Go g mX3_kindNamed 0 [_, _] [] _ _ _
  refine ok_iconst (v := 0) dX3_kindNamed_0 (by decide) ?_
  refine ok_istore_n (lo' := [_, _]) dX3_kindNamed_1 rfl (Nat.le_of_ble_eq_true rfl) rfl rfl ?_
  exact lp_X3_kindNamed_2 X hv B hk Tk 6 0 rfl K
theorem num_le {T : Nat → Nat} {z k M : Nat} (hM : M ≤ 1000) : nI (tN T z k) ≤ nI M - 1 ↔ tN T z k < M := by
  have := tN_le T z k
  have e1 : (1 : Int32).toInt = 1 := rfl
  rw [i_le, fb_subI (by rw [nI_toInt (by omega), e1]; omega) (by rw [nI_toInt (by omega), e1]; omega), nI_toInt (by omega), nI_toInt (by omega), e1]
  omega
theorem sp_X3_isNumber {g : GG} {h : Hp} {Post : Option Value → Hp → Prop} (hv : Inv h) {T : Nat → Nat} {z : Nat} (B : BT h T z) {k : Nat} (hk : k ≤ z) (Tk : Tok h T z k) {M : Nat} {x : Int32} (hM : M ≤ 1000) (ex : x = nI M - 1) (K : Post (some (.int (if num T z k M = true then 1 else 0))) h) : Sp g mX3_isNumber [.ref 38, .int x] h Post := by
  show Go g mX3_isNumber 0 [_, _] [] _ _ _
  have t5 := tT_le T z k
  subst ex
  by_cases c1 : tT T z k = 2
  · by_cases c2 : tN T z k < M
    · refine ok_aload_n dX3_isNumber_0 rfl rfl ?_
      refine ok_getI dX3_isNumber_1 f_X3_19 (by first | exact is_lit hv (by decide) rfl | exact is_sq hv hq | exact is_row hv hq | exact is_pn hv hq (by assumption) | assumption) rfl ?_
      refine ok_iconst (v := 2) dX3_isNumber_4 (by decide) ?_
      rw [Tk.1]
      refine ok_icmp_ne (tgt := 20) dX3_isNumber_5 (by decide) (fun c9 => absurd c9 (by rw [c1]; decide)) (fun _ => ?_)
      refine ok_aload_n dX3_isNumber_8 rfl rfl ?_
      refine ok_getI dX3_isNumber_9 f_X3_28 (by first | exact is_lit hv (by decide) rfl | exact is_sq hv hq | exact is_row hv hq | exact is_pn hv hq (by assumption) | assumption) rfl ?_
      refine ok_iload_n dX3_isNumber_12 rfl rfl ?_
      rw [Tk.2.2.2 c1]
      refine ok_icmp_gt (tgt := 20) dX3_isNumber_13 (by decide) (fun c9 => absurd c9 (i_nlt.mpr ((num_le hM).mpr c2))) (fun _ => ?_)
      refine ok_iconst (v := 1) dX3_isNumber_16 (by decide) ?_
      refine ok_goto (tgt := 21) dX3_isNumber_17 (by decide) ?_
      refine ok_ireturn dX3_isNumber_21 rfl rfl ?_
      have w9 : num T z k M = true := decide_eq_true ⟨c1, c2⟩
      rw [if_pos w9] at K
      exact K
    · refine ok_aload_n dX3_isNumber_0 rfl rfl ?_
      refine ok_getI dX3_isNumber_1 f_X3_19 (by first | exact is_lit hv (by decide) rfl | exact is_sq hv hq | exact is_row hv hq | exact is_pn hv hq (by assumption) | assumption) rfl ?_
      refine ok_iconst (v := 2) dX3_isNumber_4 (by decide) ?_
      rw [Tk.1]
      refine ok_icmp_ne (tgt := 20) dX3_isNumber_5 (by decide) (fun c9 => absurd c9 (by rw [c1]; decide)) (fun _ => ?_)
      refine ok_aload_n dX3_isNumber_8 rfl rfl ?_
      refine ok_getI dX3_isNumber_9 f_X3_28 (by first | exact is_lit hv (by decide) rfl | exact is_sq hv hq | exact is_row hv hq | exact is_pn hv hq (by assumption) | assumption) rfl ?_
      refine ok_iload_n dX3_isNumber_12 rfl rfl ?_
      rw [Tk.2.2.2 c1]
      refine ok_icmp_gt (tgt := 20) dX3_isNumber_13 (by decide) (fun _ => ?_) (fun c9 => absurd (i_nle.mp (fun c => c2 ((num_le hM).mp c))) c9)
      refine ok_iconst (v := 0) dX3_isNumber_20 (by decide) ?_
      refine ok_ireturn dX3_isNumber_21 rfl rfl ?_
      rw [if_neg (fun c => c2 (of_decide_eq_true c).2)] at K
      exact K
  · refine ok_aload_n dX3_isNumber_0 rfl rfl ?_
    refine ok_getI dX3_isNumber_1 f_X3_19 (by first | exact is_lit hv (by decide) rfl | exact is_sq hv hq | exact is_row hv hq | exact is_pn hv hq (by assumption) | assumption) rfl ?_
    refine ok_iconst (v := 2) dX3_isNumber_4 (by decide) ?_
    rw [Tk.1]
    refine ok_icmp_ne (tgt := 20) dX3_isNumber_5 (by decide) (fun _ => ?_) (fun c9 => absurd c9 (fun c => c1 ((nI_inj2 (b := 2) (by omega) (by omega)).mp c)))
    refine ok_iconst (v := 0) dX3_isNumber_20 (by decide) ?_
    refine ok_ireturn dX3_isNumber_21 rfl rfl ?_
    rw [if_neg (fun c => c1 (of_decide_eq_true c).1)] at K
    exact K
theorem sp_X3_takeNumber {g : GG} {h : Hp} {Post : Option Value → Hp → Prop} (hv : Inv h) {T : Nat → Nat} {z : Nat} (B : BT h T z) {k : Nat} (hk : k ≤ z) (Tk : Tok h T z k) (t2 : tT T z k = 2) (K : ∀ h', FT h h' → Tok h' T z (tB T z k) → Post (some (.int (nI (tN T z k)))) h') : Sp g mX3_takeNumber [.ref 38] h Post := by
  show Go g mX3_takeNumber 0 [_, _] [] _ _ _
  refine ok_aload_n dX3_takeNumber_0 rfl rfl ?_
  refine ok_getI dX3_takeNumber_1 f_X3_28 (by first | exact is_lit hv (by decide) rfl | exact is_sq hv hq | exact is_row hv hq | exact is_pn hv hq (by assumption) | assumption) rfl ?_
  rw [Tk.2.2.2 t2]
  refine ok_istore_n (lo' := [_, _]) dX3_takeNumber_4 rfl (Nat.le_of_ble_eq_true rfl) rfl rfl ?_
  refine ok_aload_n dX3_takeNumber_5 rfl rfl ?_
  refine ok_callV (M' := mX3_look) (b' := (0, 0)) (As := []) (cx := 3) dX3_takeNumber_6 iX3_look w_556 (by decide) rfl (by first | exact is_lit hv (by decide) rfl | exact is_sq hv hq | exact is_row hv hq | exact is_pn hv hq (by assumption) | assumption) rfl (Nat.le_of_ble_eq_true rfl) ⟨Nat.le_of_ble_eq_true rfl, Nat.le_of_ble_eq_true rfl⟩ (Nat.le_of_ble_eq_true rfl) rfl rfl ?_
  refine sp_X3_look hv B (tB_le hk).2 Tk.2.2.1 (fun h1 F1 T1 => ?_)
  refine ok_iload_n dX3_takeNumber_9 rfl rfl ?_
  refine ok_ireturn dX3_takeNumber_10 rfl rfl ?_
  exact K h1 F1 T1
