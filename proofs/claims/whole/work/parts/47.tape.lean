/-! ===== the reference: the tape, tokens, words ===== -/
theorem at_lu {h : Hp} {a k b j : Nat} {v : Int64} : hI (uL h a k v) b j = hI h b j := rfl
theorem hl_u {h : Hp} {a k b j : Nat} {v : Int32} : hL (uI h a k v) b j = hL h b j := rfl
theorem hl_lu {h : Hp} {a k j : Nat} {v : Int64} : hL (uL h a k v) a j = if j = k then v else hL h a j := by
  show (if a = a ∧ j = k then v else h.2.1 a j) = if j = k then v else h.2.1 a j
  by_cases e : j = k
  · rw [if_pos ⟨rfl, e⟩, if_pos e]
  · rw [if_neg (fun c => e c.2), if_neg e]
/-- the tape of the reference -/
def MT (h : Hp) (T : Nat → Nat) (z : Nat) : Prop := z ≤ 120 ∧ hI h 49 7 = nI z ∧ (∀ i, T i < 256) ∧ ∀ i, i < z → hI h 55 i = nI (T i)
/-- what stays while the reference reads -/
def FA (h0 h : Hp) : Prop := h.2.2 = h0.2.2 ∧ (∀ a, a ≠ 49 → h.1 a = h0.1 a) ∧ (∀ a, a ≠ 49 → h.2.1 a = h0.2.1 a) ∧ h.1 49 7 = h0.1 49 7 ∧ h.1 49 20 = h0.1 49 20
theorem FA.rf {h : Hp} : FA h h := ⟨rfl, fun _ _ => rfl, fun _ _ => rfl, rfl, rfl⟩
theorem FA.tr {h h' h'' : Hp} (a : FA h h') (b : FA h' h'') : FA h h'' := ⟨b.1.trans a.1, fun x hx => (b.2.1 x hx).trans (a.2.1 x hx), fun x hx => (b.2.2.1 x hx).trans (a.2.2.1 x hx), b.2.2.2.1.trans a.2.2.2.1, b.2.2.2.2.trans a.2.2.2.2⟩
theorem FA.u {h0 h : Hp} (F : FA h0 h) {k : Nat} {v : Int32} (hk : k ≠ 7) (hk2 : k ≠ 20) : FA h0 (uI h 49 k v) := ⟨F.1, fun a ha => (funext fun _ => if_neg (fun e => ha e.1)).trans (F.2.1 a ha), F.2.2.1, (if_neg (fun e => hk e.2.symm)).trans F.2.2.2.1, (if_neg (fun e => hk2 e.2.symm)).trans F.2.2.2.2⟩
theorem FA.l {h0 h : Hp} (F : FA h0 h) {k : Nat} {v : Int64} : FA h0 (uL h 49 k v) := ⟨F.1, F.2.1, fun a ha => (funext fun _ => if_neg (fun e => ha e.1)).trans (F.2.2.1 a ha), F.2.2.2.1, F.2.2.2.2⟩
theorem FA.inv {h0 h : Hp} (F : FA h0 h) (hv : Inv h0) : Inv h := by show InvR h.2.2; rw [F.1]; exact hv
theorem FA.mt {h0 h : Hp} {T : Nat → Nat} {z : Nat} (F : FA h0 h) (B : MT h0 T z) : MT h T z := ⟨B.1, F.2.2.2.1.trans B.2.1, B.2.2.1, fun i hi => by show h.1 55 i = _; rw [F.2.1 55 (by decide)]; exact B.2.2.2 i hi⟩
theorem FA.rm {a : Nat} {h0 h : Hp} {n : Nat} {r : Nat → Int32} (F : FA h0 h) (ha : a ≠ 49) (R : RM a h0 n r) : RM a h n r := R.fr (F.2.1 a ha)
theorem FA.ql {h0 h : Hp} (F : FA h0 h) : QL h0 h := ⟨F.1, fun a ha _ _ _ _ _ => F.2.1 a ha, fun a ha _ => F.2.2.1 a ha, F.2.2.2.1, F.2.2.2.2⟩
/-- a byte of the tape, -1 behind it -/
def bA (T : Nat → Nat) (z j : Nat) : Int32 := if j < z then nI (T j) else -1
theorem bA_lt {T : Nat → Nat} {z j : Nat} (h : j < z) : bA T z j = nI (T j) := if_pos h
theorem bA_ge {T : Nat → Nat} {z j : Nat} (h : z ≤ j) : bA T z j = -1 := if_neg (by omega)
theorem nb_L : ∀ t, t < 256 → (if nI t < 97 then (0 : Int32) else if 122 < nI t then 0 else 1) = if isL t = true then 1 else 0 := by decide +kernel
theorem nb_D : ∀ t, t < 256 → (if nI t < 48 then (0 : Int32) else if 57 < nI t then 0 else 1) = if isD t = true then 1 else 0 := by decide +kernel
theorem bl_y {T : Nat → Nat} {z j : Nat} (hT : ∀ i, T i < 256) (h : j < z) (hl : isL (T j) = true) : (if bA T z j < 97 then (0 : Int32) else if 122 < bA T z j then 0 else 1) = 1 := by rw [bA_lt h, nb_L _ (hT j), if_pos hl]
theorem bd_y {T : Nat → Nat} {z j : Nat} (hT : ∀ i, T i < 256) (h : j < z) (hl : isD (T j) = true) : (if bA T z j < 48 then (0 : Int32) else if 57 < bA T z j then 0 else 1) = 1 := by rw [bA_lt h, nb_D _ (hT j), if_pos hl]
theorem bl_n {T : Nat → Nat} {z j : Nat} (hT : ∀ i, T i < 256) (h : ¬ (j < z ∧ isL (T j) = true)) : (if bA T z j < 97 then (0 : Int32) else if 122 < bA T z j then 0 else 1) = 0 := by
  by_cases c : j < z
  · rw [bA_lt c, nb_L _ (hT j), if_neg (fun e => h ⟨c, e⟩)]
  · rw [bA_ge (by omega)]; decide
theorem bd_n {T : Nat → Nat} {z j : Nat} (hT : ∀ i, T i < 256) (h : ¬ (j < z ∧ isD (T j) = true)) : (if bA T z j < 48 then (0 : Int32) else if 57 < bA T z j then 0 else 1) = 0 := by
  by_cases c : j < z
  · rw [bA_lt c, nb_D _ (hT j), if_neg (fun e => h ⟨c, e⟩)]
  · rw [bA_ge (by omega)]; decide
theorem bs_n {T : Nat → Nat} {z j : Nat} (hT : ∀ i, T i < 256) (h : ¬ (j < z ∧ isS (T j) = true)) : ¬ bA T z j = 32 := by
  by_cases c : j < z
  · rw [bA_lt c]
    intro e
    have := (nI_inj2 (b := 32) (by have := hT j; omega) (by decide)).mp e
    exact h ⟨c, by rw [this]; rfl⟩
  · rw [bA_ge (by omega)]; decide
theorem bs_y {T : Nat → Nat} {z j : Nat} (h : j < z) (hl : isS (T j) = true) : bA T z j = 32 := by
  rw [bA_lt h, show T j = 32 from by simpa [isS] using hl]
  rfl
/-- what a word comes to -/
def wv (T : Nat → Nat) (f : Nat) : Nat → Int64
  | 0 => 0
  | m + 1 => if m < 12 then 27 * wv T f m + (nI (T (f + m))).toInt64 - 96 else -1
/-- the token that the reference looks at -/
def TkM (h : Hp) (T : Nat → Nat) (z k : Nat) : Prop := hI h 49 8 = nI (min 3 (tT T z k)) ∧ hI h 49 9 = nI (tF T z k) ∧ hI h 49 10 = nI (tB T z k) ∧ (tT T z k = 1 → hL h 49 11 = wv T (tF T z k) (tB T z k - tF T z k)) ∧ (tT T z k = 2 → hI h 49 12 = nI (tN T z k)) ∧ (3 ≤ tT T z k → hI h 49 12 = nI (T (tF T z k)))
theorem nu_s {v t : Nat} (hv : v ≤ 1000) (ht : 48 ≤ t) (ht2 : t ≤ 57) : (if nI v ≤ 99 then 10 * nI v + nI t - 48 else 1000) = nI (min 1000 (10 * v + (t - 48))) := by
  have e48 : (48 : Int32) = nI 48 := rfl
  have e10 : (10 : Int32) = nI 10 := rfl
  by_cases c : v ≤ 99
  · rw [if_pos (show nI v ≤ 99 from nI_le (a := v) (b := 99) c (by omega)), e48, e10, show nI 10 * nI v = nI (10 * v) from by rw [i_eq, Int32.toInt_mul, nI_toInt (by omega), nI_toInt (by omega), nI_toInt (by omega), fb_bmod (by omega) (by omega)]; omega, nI_pl (by omega), nI_mi (by omega) (by omega)]
    congr 1
    omega
  · rw [if_neg (show ¬ nI v ≤ 99 from nI_ge (a := 99) (b := v) (by omega) (by omega)), show min 1000 (10 * v + (t - 48)) = 1000 by omega]
    rfl
theorem sp_X5_byteAt {g : GG} {h : Hp} {Post : Option Value → Hp → Prop} (hv : Inv h) {T : Nat → Nat} {z : Nat} (B : MT h T z) {j : Nat} (hj : j ≤ 200) (K : Post (some (.int (bA T z j))) h) : Sp g mX5_byteAt [.ref 49, .int (nI j)] h Post := by
  show Go g mX5_byteAt 0 [_, _] [] _ _ _
  have hz := B.1
  unfold bA at K
  refine ok_iload_n dX5_byteAt_0 rfl rfl ?_
  refine ok_aload_n dX5_byteAt_1 rfl rfl ?_
  refine ok_getI dX5_byteAt_2 f_X5_160 (by first | exact is_lit hv (by decide) rfl | exact is_sq hv hq | exact is_row hv hq | exact is_pn hv hq (by assumption) | assumption) rfl ?_
  rw [B.2.1]
  refine ok_icmp_ge (tgt := 17) dX5_byteAt_5 (by decide) (fun c_5 => ?_) (fun c_5 => ?_)
  · refine ok_iconst (v := -1) dX5_byteAt_17 (by decide) ?_
    refine ok_ireturn dX5_byteAt_18 rfl rfl ?_
    first | (rw [if_neg (fun c => nI_ge c (by omega) c_5)] at K; exact K) | (rw [if_pos ((nI_ltI (by omega) (by omega)).mp (i_nle.mp c_5))] at K; exact K)
  · refine ok_aload_n dX5_byteAt_8 rfl rfl ?_
    refine ok_getR dX5_byteAt_9 f_X5_25 (by first | exact is_lit hv (by decide) rfl | exact is_sq hv hq | exact is_row hv hq | exact is_pn hv hq (by assumption) | assumption) rfl (by first | exact rf hv rfl | exact rf_row hv hq | assumption) ?_
    refine ok_iload_n dX5_byteAt_12 rfl rfl ?_
    refine ok_iaload dX5_byteAt_13 (is_lit hv (by decide) rfl) (vp_in_nI (show j < 120 by have := (nI_ltI (a := j) (b := z) (by omega) (by omega)).mp (i_nle.mp c_5); omega) (by decide)) ?_
    rw [nI_clamp (by omega), B.2.2.2 j ((nI_ltI (by omega) (by omega)).mp (i_nle.mp c_5))]
    refine ok_goto (tgt := 18) dX5_byteAt_14 (by decide) ?_
    refine ok_ireturn dX5_byteAt_18 rfl rfl ?_
    first | (rw [if_neg (fun c => nI_ge c (by omega) c_5)] at K; exact K) | (rw [if_pos ((nI_ltI (by omega) (by omega)).mp (i_nle.mp c_5))] at K; exact K)
theorem lp_X5_advance_8 {g : GG} {h0 : Hp} {Post : Option Value → Hp → Prop} (hv0 : Inv h0) {T : Nat → Nat} {z : Nat} (B0 : MT h0 T z) {k : Nat} (hk : k ≤ z) {x1 : Option Value} (K : ∀ h, FA h0 h → hI h 49 9 = nI (tF T z k) → hI h 49 13 = hI h0 49 13 → Go g mX5_advance 34 [some (.ref 49), x1] [] h (0, 0) Post) : ∀ (d j : Nat) (h : Hp), j + d = tF T z k → k ≤ j → FA h0 h → hI h 49 9 = nI j → hI h 49 13 = hI h0 49 13 → Go g mX5_advance 8 [some (.ref 49), x1] [] h (0, 0) Post := by
  have hz := B0.1
  have RS := rne_run isS T z k
  have hF := tF_le (T := T) hk
  intro d
  induction d with
  | zero =>
    intro j h hd hj F e9 gd
    obtain rfl : j = tF T z k := by omega
    have hv := F.inv hv0
    have B := F.mt B0
    refine ok_aload_n dX5_advance_8 rfl rfl ?_
    refine ok_aload_n dX5_advance_9 rfl rfl ?_
    refine ok_getI dX5_advance_10 f_X5_166 (by first | exact is_lit hv (by decide) rfl | exact is_sq hv hq | exact is_row hv hq | exact is_pn hv hq (by assumption) | assumption) rfl ?_
    rw [e9]
    refine ok_callV (M' := mX5_byteAt) (b' := (0, 0)) (As := [_]) (cx := 5) dX5_advance_13 iX5_byteAt w_1094 (by decide) rfl (by first | exact is_lit hv (by decide) rfl | exact is_sq hv hq | exact is_row hv hq | exact is_pn hv hq (by assumption) | assumption) rfl (Nat.le_of_ble_eq_true rfl) ⟨Nat.le_of_ble_eq_true rfl, Nat.le_of_ble_eq_true rfl⟩ (Nat.le_of_ble_eq_true rfl) rfl rfl ?_
    refine sp_X5_byteAt (by exact hv) B (j := tF T z k) (by omega) ?_
    refine ok_bipush (v := 32) dX5_advance_16 (by decide) ?_
    refine ok_icmp_ne (tgt := 34) dX5_advance_18 (by decide) (fun _ => ?_) (fun c9 => absurd c9 (bs_n B.2.2.1 RS.2.2))
    exact K h F e9 gd
  | succ d ih =>
    intro j h hd hj F e9 gd
    have hv := F.inv hv0
    have B := F.mt B0
    obtain ⟨hjz, hs⟩ := RS.2.1 j hj (by show j < tF T z k; omega)
    refine ok_aload_n dX5_advance_8 rfl rfl ?_
    refine ok_aload_n dX5_advance_9 rfl rfl ?_
    refine ok_getI dX5_advance_10 f_X5_166 (by first | exact is_lit hv (by decide) rfl | exact is_sq hv hq | exact is_row hv hq | exact is_pn hv hq (by assumption) | assumption) rfl ?_
    rw [e9]
    refine ok_callV (M' := mX5_byteAt) (b' := (0, 0)) (As := [_]) (cx := 5) dX5_advance_13 iX5_byteAt w_1094 (by decide) rfl (by first | exact is_lit hv (by decide) rfl | exact is_sq hv hq | exact is_row hv hq | exact is_pn hv hq (by assumption) | assumption) rfl (Nat.le_of_ble_eq_true rfl) ⟨Nat.le_of_ble_eq_true rfl, Nat.le_of_ble_eq_true rfl⟩ (Nat.le_of_ble_eq_true rfl) rfl rfl ?_
    refine sp_X5_byteAt (by exact hv) B (j := j) (by omega) ?_
    refine ok_bipush (v := 32) dX5_advance_16 (by decide) ?_
    refine ok_icmp_ne (tgt := 34) dX5_advance_18 (by decide) (fun c9 => absurd c9 (fun c => c (bs_y hjz hs))) (fun _ => ?_)
    refine ok_aload_n dX5_advance_21 rfl rfl ?_
    refine ok_dup dX5_advance_22 rfl ?_
    refine ok_getI dX5_advance_23 f_X5_166 (by first | exact is_lit hv (by decide) rfl | exact is_sq hv hq | exact is_row hv hq | exact is_pn hv hq (by assumption) | assumption) rfl ?_
    rw [e9]
    refine ok_iconst (v := 1) dX5_advance_26 (by decide) ?_
    refine ok_iadd dX5_advance_27 ?_
    refine ok_putI dX5_advance_28 f_X5_166 (by first | exact is_lit hv (by decide) rfl | exact is_sq hv hq | exact is_row hv hq | exact is_pn hv hq (by assumption) | assumption) rfl rfl rfl rfl ?_
    refine ok_goto (tgt := 8) dX5_advance_31 (by decide) ?_
    rw [nI_1]
    exact ih (j + 1) _ (by omega) (by omega) (F.u (by decide) (by decide)) at_uI ((at_un (by decide)).trans gd)
theorem lp_X5_advance_126 {g : GG} {h0 : Hp} {Post : Option Value → Hp → Prop} (hv0 : Inv h0) {T : Nat → Nat} {z : Nat} (B0 : MT h0 T z) {k : Nat} (hk : k ≤ z) (t1 : tT T z k = 1) {x1 : Option Value} (K : ∀ h', FA h0 h' → hI h' 49 13 = hI h0 49 13 → TkM h' T z k → Post none h') : ∀ (d j : Nat) (h : Hp), j + d = rne isL T z (tF T z k) → tF T z k ≤ j → FA h0 h → hI h 49 8 = 1 → hI h 49 9 = nI (tF T z k) → hI h 49 10 = nI j → hL h 49 11 = wv T (tF T z k) (j - tF T z k) → hI h 49 13 = hI h0 49 13 → Go g mX5_advance 126 [some (.ref 49), x1] [] h (0, 0) Post := by
  have hz := B0.1
  have hF := tF_le (T := T) hk
  have RL := rne_run isL T z (tF T z k)
  have hL := RL.le hF.2
  have eB : tB T z k = rne isL T z (tF T z k) := by unfold tB; rw [if_neg (by omega), if_pos t1]
  intro d
  induction d with
  | zero =>
    intro j h hd hj F e8 e9 e10 e11 gd
    obtain rfl : j = rne isL T z (tF T z k) := by omega
    have hv := F.inv hv0
    have B := F.mt B0
    refine ok_aload_n dX5_advance_126 rfl rfl ?_
    refine ok_getI dX5_advance_127 f_X5_178 (by first | exact is_lit hv (by decide) rfl | exact is_sq hv hq | exact is_row hv hq | exact is_pn hv hq (by assumption) | assumption) rfl ?_
    rw [e8]
    refine ok_iconst (v := 1) dX5_advance_130 (by decide) ?_
    refine ok_icmp_ne (tgt := 207) dX5_advance_131 (by decide) (fun c9 => absurd c9 (fun c => c rfl)) (fun _ => ?_)
    refine ok_aload_n dX5_advance_134 rfl rfl ?_
    refine ok_aload_n dX5_advance_135 rfl rfl ?_
    refine ok_getI dX5_advance_136 f_X5_163 (by first | exact is_lit hv (by decide) rfl | exact is_sq hv hq | exact is_row hv hq | exact is_pn hv hq (by assumption) | assumption) rfl ?_
    rw [e10]
    refine ok_callV (M' := mX5_byteAt) (b' := (0, 0)) (As := [_]) (cx := 5) dX5_advance_139 iX5_byteAt w_1094 (by decide) rfl (by first | exact is_lit hv (by decide) rfl | exact is_sq hv hq | exact is_row hv hq | exact is_pn hv hq (by assumption) | assumption) rfl (Nat.le_of_ble_eq_true rfl) ⟨Nat.le_of_ble_eq_true rfl, Nat.le_of_ble_eq_true rfl⟩ (Nat.le_of_ble_eq_true rfl) rfl rfl ?_
    refine sp_X5_byteAt (by exact hv) B (j := rne isL T z (tF T z k)) (by omega) ?_
    refine ok_callS (M' := mX5_isLetter) (b' := (0, 0)) (As := [_]) dX5_advance_142 iX5_isLetter w_1098 rfl (Nat.le_of_ble_eq_true rfl) ⟨Nat.le_of_ble_eq_true rfl, Nat.le_of_ble_eq_true rfl⟩ (Nat.le_of_ble_eq_true rfl) rfl rfl ?_
    refine sp_X5_isLetter _ ?_
    rw [bl_n B.2.2.1 RL.2.2]
    refine ok_if_eq (tgt := 207) dX5_advance_145 (by decide) (fun _ => ?_) (fun c9 => absurd rfl c9)
    refine ok_aload_n dX5_advance_207 rfl rfl ?_
    refine ok_getI dX5_advance_208 f_X5_178 (by first | exact is_lit hv (by decide) rfl | exact is_sq hv hq | exact is_row hv hq | exact is_pn hv hq (by assumption) | assumption) rfl ?_
    rw [e8]
    refine ok_iconst (v := 2) dX5_advance_211 (by decide) ?_
    refine ok_icmp_ne (tgt := 280) dX5_advance_212 (by decide) (fun _ => ?_) (fun c9 => absurd c9 (by decide))
    refine ok_return dX5_advance_280 rfl ?_
    refine K h F gd ⟨by rw [e8, t1]; rfl, e9, by rw [eB]; exact e10, fun _ => by rw [eB]; exact e11, fun c => by omega, fun c => by omega⟩
  | succ d ih =>
    intro j h hd hj F e8 e9 e10 e11 gd
    have hv := F.inv hv0
    have B := F.mt B0
    obtain ⟨hjz, hl⟩ := RL.2.1 j hj (by omega)
    have ew : ∀ x, wv T (tF T z k) (j - tF T z k + 1) = x → wv T (tF T z k) (j + 1 - tF T z k) = x := fun x e => by rw [show j + 1 - tF T z k = j - tF T z k + 1 by omega]; exact e
    by_cases c12 : j - tF T z k < 12
    · refine ok_aload_n dX5_advance_126 rfl rfl ?_
      refine ok_getI dX5_advance_127 f_X5_178 (by first | exact is_lit hv (by decide) rfl | exact is_sq hv hq | exact is_row hv hq | exact is_pn hv hq (by assumption) | assumption) rfl ?_
      rw [e8]
      refine ok_iconst (v := 1) dX5_advance_130 (by decide) ?_
      refine ok_icmp_ne (tgt := 207) dX5_advance_131 (by decide) (fun c9 => absurd c9 (fun c => c rfl)) (fun _ => ?_)
      refine ok_aload_n dX5_advance_134 rfl rfl ?_
      refine ok_aload_n dX5_advance_135 rfl rfl ?_
      refine ok_getI dX5_advance_136 f_X5_163 (by first | exact is_lit hv (by decide) rfl | exact is_sq hv hq | exact is_row hv hq | exact is_pn hv hq (by assumption) | assumption) rfl ?_
      rw [e10]
      refine ok_callV (M' := mX5_byteAt) (b' := (0, 0)) (As := [_]) (cx := 5) dX5_advance_139 iX5_byteAt w_1094 (by decide) rfl (by first | exact is_lit hv (by decide) rfl | exact is_sq hv hq | exact is_row hv hq | exact is_pn hv hq (by assumption) | assumption) rfl (Nat.le_of_ble_eq_true rfl) ⟨Nat.le_of_ble_eq_true rfl, Nat.le_of_ble_eq_true rfl⟩ (Nat.le_of_ble_eq_true rfl) rfl rfl ?_
      refine sp_X5_byteAt (by exact hv) B (j := j) (by omega) ?_
      refine ok_callS (M' := mX5_isLetter) (b' := (0, 0)) (As := [_]) dX5_advance_142 iX5_isLetter w_1098 rfl (Nat.le_of_ble_eq_true rfl) ⟨Nat.le_of_ble_eq_true rfl, Nat.le_of_ble_eq_true rfl⟩ (Nat.le_of_ble_eq_true rfl) rfl rfl ?_
      refine sp_X5_isLetter _ ?_
      rw [bl_y B.2.2.1 hjz hl]
      refine ok_if_eq (tgt := 207) dX5_advance_145 (by decide) (fun c9 => absurd c9 (by decide)) (fun _ => ?_)
      refine ok_aload_n dX5_advance_148 rfl rfl ?_
      refine ok_aload_n dX5_advance_149 rfl rfl ?_
      refine ok_getI dX5_advance_150 f_X5_163 (by first | exact is_lit hv (by decide) rfl | exact is_sq hv hq | exact is_row hv hq | exact is_pn hv hq (by assumption) | assumption) rfl ?_
      refine ok_aload_n dX5_advance_153 rfl rfl ?_
      refine ok_getI dX5_advance_154 f_X5_166 (by first | exact is_lit hv (by decide) rfl | exact is_sq hv hq | exact is_row hv hq | exact is_pn hv hq (by assumption) | assumption) rfl ?_
      rw [e10, e9]
      refine ok_isub dX5_advance_157 ?_
      rw [nI_mi hj (by omega)]
      refine ok_bipush (v := 12) dX5_advance_158 (by decide) ?_
      refine ok_icmp_ge (tgt := 188) dX5_advance_160 (by decide) (fun c9 => absurd c9 (nI_ge (a := j - tF T z k) (b := 12) c12 (by decide))) (fun _ => ?_)
      refine ok_ldc2 dX5_advance_163 w_1104 ?_
      refine ok_aload_n dX5_advance_166 rfl rfl ?_
      refine ok_getL dX5_advance_167 f_X5_181 (by first | exact is_lit hv (by decide) rfl | exact is_sq hv hq | exact is_row hv hq | exact is_pn hv hq (by assumption) | assumption) rfl ?_
      rw [e11]
      refine ok_lmul dX5_advance_170 ?_
      refine ok_aload_n dX5_advance_171 rfl rfl ?_
      refine ok_aload_n dX5_advance_172 rfl rfl ?_
      refine ok_getI dX5_advance_173 f_X5_163 (by first | exact is_lit hv (by decide) rfl | exact is_sq hv hq | exact is_row hv hq | exact is_pn hv hq (by assumption) | assumption) rfl ?_
      rw [e10]
      refine ok_callV (M' := mX5_byteAt) (b' := (0, 0)) (As := [_]) (cx := 5) dX5_advance_176 iX5_byteAt w_1094 (by decide) rfl (by first | exact is_lit hv (by decide) rfl | exact is_sq hv hq | exact is_row hv hq | exact is_pn hv hq (by assumption) | assumption) rfl (Nat.le_of_ble_eq_true rfl) ⟨Nat.le_of_ble_eq_true rfl, Nat.le_of_ble_eq_true rfl⟩ (Nat.le_of_ble_eq_true rfl) rfl rfl ?_
      refine sp_X5_byteAt (by exact hv) B (j := j) (by omega) ?_
      rw [bA_lt hjz]
      refine ok_i2l dX5_advance_179 ?_
      refine ok_ladd dX5_advance_180 ?_
      refine ok_ldc2 dX5_advance_181 w_1105 ?_
      refine ok_lsub dX5_advance_184 ?_
      refine ok_goto (tgt := 191) dX5_advance_185 (by decide) ?_
      refine ok_putL dX5_advance_191 f_X5_181 (by first | exact is_lit hv (by decide) rfl | exact is_sq hv hq | exact is_row hv hq | exact is_pn hv hq (by assumption) | assumption) rfl rfl rfl rfl ?_
      refine ok_aload_n dX5_advance_194 rfl rfl ?_
      refine ok_dup dX5_advance_195 rfl ?_
      refine ok_getI dX5_advance_196 f_X5_163 (by first | exact is_lit hv (by decide) rfl | exact is_sq hv hq | exact is_row hv hq | exact is_pn hv hq (by assumption) | assumption) rfl ?_
      simp only [at_uo, at_lu, hl_u, hl_lu, ↓reduceIte, Nat.reduceEqDiff, Nat.reduceEqDiff, e10]
      refine ok_iconst (v := 1) dX5_advance_199 (by decide) ?_
      refine ok_iadd dX5_advance_200 ?_
      refine ok_putI dX5_advance_201 f_X5_163 (by first | exact is_lit hv (by decide) rfl | exact is_sq hv hq | exact is_row hv hq | exact is_pn hv hq (by assumption) | assumption) rfl rfl rfl rfl ?_
      refine ok_goto (tgt := 126) dX5_advance_204 (by decide) ?_
      rw [nI_1]
      refine ih (j + 1) _ (by omega) (by omega) (F.l.u (by decide) (by decide)) ((at_un (by decide)).trans e8) ((at_un (by decide)).trans e9) at_uI ?_ ((at_un (by decide)).trans gd)
      rw [hl_u, hl_lu, if_pos rfl]
      refine (ew _ ?_).symm
      rw [wv, if_pos c12, show tF T z k + (j - tF T z k) = j by omega]
    · refine ok_aload_n dX5_advance_126 rfl rfl ?_
      refine ok_getI dX5_advance_127 f_X5_178 (by first | exact is_lit hv (by decide) rfl | exact is_sq hv hq | exact is_row hv hq | exact is_pn hv hq (by assumption) | assumption) rfl ?_
      rw [e8]
      refine ok_iconst (v := 1) dX5_advance_130 (by decide) ?_
      refine ok_icmp_ne (tgt := 207) dX5_advance_131 (by decide) (fun c9 => absurd c9 (fun c => c rfl)) (fun _ => ?_)
      refine ok_aload_n dX5_advance_134 rfl rfl ?_
      refine ok_aload_n dX5_advance_135 rfl rfl ?_
      refine ok_getI dX5_advance_136 f_X5_163 (by first | exact is_lit hv (by decide) rfl | exact is_sq hv hq | exact is_row hv hq | exact is_pn hv hq (by assumption) | assumption) rfl ?_
      rw [e10]
      refine ok_callV (M' := mX5_byteAt) (b' := (0, 0)) (As := [_]) (cx := 5) dX5_advance_139 iX5_byteAt w_1094 (by decide) rfl (by first | exact is_lit hv (by decide) rfl | exact is_sq hv hq | exact is_row hv hq | exact is_pn hv hq (by assumption) | assumption) rfl (Nat.le_of_ble_eq_true rfl) ⟨Nat.le_of_ble_eq_true rfl, Nat.le_of_ble_eq_true rfl⟩ (Nat.le_of_ble_eq_true rfl) rfl rfl ?_
      refine sp_X5_byteAt (by exact hv) B (j := j) (by omega) ?_
      refine ok_callS (M' := mX5_isLetter) (b' := (0, 0)) (As := [_]) dX5_advance_142 iX5_isLetter w_1098 rfl (Nat.le_of_ble_eq_true rfl) ⟨Nat.le_of_ble_eq_true rfl, Nat.le_of_ble_eq_true rfl⟩ (Nat.le_of_ble_eq_true rfl) rfl rfl ?_
      refine sp_X5_isLetter _ ?_
      rw [bl_y B.2.2.1 hjz hl]
      refine ok_if_eq (tgt := 207) dX5_advance_145 (by decide) (fun c9 => absurd c9 (by decide)) (fun _ => ?_)
      refine ok_aload_n dX5_advance_148 rfl rfl ?_
      refine ok_aload_n dX5_advance_149 rfl rfl ?_
      refine ok_getI dX5_advance_150 f_X5_163 (by first | exact is_lit hv (by decide) rfl | exact is_sq hv hq | exact is_row hv hq | exact is_pn hv hq (by assumption) | assumption) rfl ?_
      refine ok_aload_n dX5_advance_153 rfl rfl ?_
      refine ok_getI dX5_advance_154 f_X5_166 (by first | exact is_lit hv (by decide) rfl | exact is_sq hv hq | exact is_row hv hq | exact is_pn hv hq (by assumption) | assumption) rfl ?_
      rw [e10, e9]
      refine ok_isub dX5_advance_157 ?_
      rw [nI_mi hj (by omega)]
      refine ok_bipush (v := 12) dX5_advance_158 (by decide) ?_
      refine ok_icmp_ge (tgt := 188) dX5_advance_160 (by decide) (fun _ => ?_) (fun c9 => absurd (nI_le (a := 12) (b := j - tF T z k) (by omega) (by omega)) c9)
      refine ok_ldc2 dX5_advance_188 w_1106 ?_
      refine ok_putL dX5_advance_191 f_X5_181 (by first | exact is_lit hv (by decide) rfl | exact is_sq hv hq | exact is_row hv hq | exact is_pn hv hq (by assumption) | assumption) rfl rfl rfl rfl ?_
      refine ok_aload_n dX5_advance_194 rfl rfl ?_
      refine ok_dup dX5_advance_195 rfl ?_
      refine ok_getI dX5_advance_196 f_X5_163 (by first | exact is_lit hv (by decide) rfl | exact is_sq hv hq | exact is_row hv hq | exact is_pn hv hq (by assumption) | assumption) rfl ?_
      simp only [at_uo, at_lu, hl_u, hl_lu, ↓reduceIte, Nat.reduceEqDiff, Nat.reduceEqDiff, e10]
      refine ok_iconst (v := 1) dX5_advance_199 (by decide) ?_
      refine ok_iadd dX5_advance_200 ?_
      refine ok_putI dX5_advance_201 f_X5_163 (by first | exact is_lit hv (by decide) rfl | exact is_sq hv hq | exact is_row hv hq | exact is_pn hv hq (by assumption) | assumption) rfl rfl rfl rfl ?_
      refine ok_goto (tgt := 126) dX5_advance_204 (by decide) ?_
      rw [nI_1]
      refine ih (j + 1) _ (by omega) (by omega) (F.l.u (by decide) (by decide)) ((at_un (by decide)).trans e8) ((at_un (by decide)).trans e9) at_uI ?_ ((at_un (by decide)).trans gd)
      rw [hl_u, hl_lu, if_pos rfl]
      refine (ew _ ?_).symm
      rw [wv, if_neg c12]
theorem lp_X5_advance_207 {g : GG} {h0 : Hp} {Post : Option Value → Hp → Prop} (hv0 : Inv h0) {T : Nat → Nat} {z : Nat} (B0 : MT h0 T z) {k : Nat} (hk : k ≤ z) (t2 : tT T z k = 2) {x1 : Option Value} (K : ∀ h', FA h0 h' → hI h' 49 13 = hI h0 49 13 → TkM h' T z k → Post none h') : ∀ (d j : Nat) (h : Hp), j + d = rne isD T z (tF T z k) → tF T z k ≤ j → FA h0 h → hI h 49 8 = 2 → hI h 49 9 = nI (tF T z k) → hI h 49 10 = nI j → hI h 49 12 = nI (nu T (tF T z k) (j - tF T z k)) → hI h 49 13 = hI h0 49 13 → Go g mX5_advance 207 [some (.ref 49), x1] [] h (0, 0) Post := by
  have hz := B0.1
  have hF := tF_le (T := T) hk
  have RL := rne_run isD T z (tF T z k)
  have hL := RL.le hF.2
  have eB : tB T z k = rne isD T z (tF T z k) := by unfold tB; rw [if_neg (by omega), if_neg (by omega), if_pos t2]
  intro d
  induction d with
  | zero =>
    intro j h hd hj F e8 e9 e10 e12 gd
    obtain rfl : j = rne isD T z (tF T z k) := by omega
    have hv := F.inv hv0
    have B := F.mt B0
    refine ok_aload_n dX5_advance_207 rfl rfl ?_
    refine ok_getI dX5_advance_208 f_X5_178 (by first | exact is_lit hv (by decide) rfl | exact is_sq hv hq | exact is_row hv hq | exact is_pn hv hq (by assumption) | assumption) rfl ?_
    rw [e8]
    refine ok_iconst (v := 2) dX5_advance_211 (by decide) ?_
    refine ok_icmp_ne (tgt := 280) dX5_advance_212 (by decide) (fun c9 => absurd c9 (fun c => c rfl)) (fun _ => ?_)
    refine ok_aload_n dX5_advance_215 rfl rfl ?_
    refine ok_aload_n dX5_advance_216 rfl rfl ?_
    refine ok_getI dX5_advance_217 f_X5_163 (by first | exact is_lit hv (by decide) rfl | exact is_sq hv hq | exact is_row hv hq | exact is_pn hv hq (by assumption) | assumption) rfl ?_
    rw [e10]
    refine ok_callV (M' := mX5_byteAt) (b' := (0, 0)) (As := [_]) (cx := 5) dX5_advance_220 iX5_byteAt w_1094 (by decide) rfl (by first | exact is_lit hv (by decide) rfl | exact is_sq hv hq | exact is_row hv hq | exact is_pn hv hq (by assumption) | assumption) rfl (Nat.le_of_ble_eq_true rfl) ⟨Nat.le_of_ble_eq_true rfl, Nat.le_of_ble_eq_true rfl⟩ (Nat.le_of_ble_eq_true rfl) rfl rfl ?_
    refine sp_X5_byteAt (by exact hv) B (j := rne isD T z (tF T z k)) (by omega) ?_
    refine ok_callS (M' := mX5_isDigit) (b' := (0, 0)) (As := [_]) dX5_advance_223 iX5_isDigit w_1101 rfl (Nat.le_of_ble_eq_true rfl) ⟨Nat.le_of_ble_eq_true rfl, Nat.le_of_ble_eq_true rfl⟩ (Nat.le_of_ble_eq_true rfl) rfl rfl ?_
    refine sp_X5_isDigit _ ?_
    rw [bd_n B.2.2.1 RL.2.2]
    refine ok_if_eq (tgt := 280) dX5_advance_226 (by decide) (fun _ => ?_) (fun c9 => absurd rfl c9)
    refine ok_return dX5_advance_280 rfl ?_
    refine K h F gd ⟨by rw [e8, t2]; rfl, e9, by rw [eB]; exact e10, fun c => by omega, fun _ => by unfold tN; rw [eB]; exact e12, fun c => by omega⟩
  | succ d ih =>
    intro j h hd hj F e8 e9 e10 e12 gd
    have hv := F.inv hv0
    have B := F.mt B0
    obtain ⟨hjz, hl⟩ := RL.2.1 j hj (by omega)
    have h1000 := nu_le T (tF T z k) (j - tF T z k)
    have hd48 : 48 ≤ T j ∧ T j ≤ 57 := by simpa [isD] using hl
    have es := nu_s h1000 hd48.1 hd48.2
    have ew : nI (nu T (tF T z k) (j + 1 - tF T z k)) = nI (min 1000 (10 * nu T (tF T z k) (j - tF T z k) + (T j - 48))) := by rw [show j + 1 - tF T z k = j - tF T z k + 1 by omega, nu, show tF T z k + (j - tF T z k) = j by omega]
    rw [← es] at ew
    refine ok_aload_n dX5_advance_207 rfl rfl ?_
    refine ok_getI dX5_advance_208 f_X5_178 (by first | exact is_lit hv (by decide) rfl | exact is_sq hv hq | exact is_row hv hq | exact is_pn hv hq (by assumption) | assumption) rfl ?_
    rw [e8]
    refine ok_iconst (v := 2) dX5_advance_211 (by decide) ?_
    refine ok_icmp_ne (tgt := 280) dX5_advance_212 (by decide) (fun c9 => absurd c9 (fun c => c rfl)) (fun _ => ?_)
    refine ok_aload_n dX5_advance_215 rfl rfl ?_
    refine ok_aload_n dX5_advance_216 rfl rfl ?_
    refine ok_getI dX5_advance_217 f_X5_163 (by first | exact is_lit hv (by decide) rfl | exact is_sq hv hq | exact is_row hv hq | exact is_pn hv hq (by assumption) | assumption) rfl ?_
    rw [e10]
    refine ok_callV (M' := mX5_byteAt) (b' := (0, 0)) (As := [_]) (cx := 5) dX5_advance_220 iX5_byteAt w_1094 (by decide) rfl (by first | exact is_lit hv (by decide) rfl | exact is_sq hv hq | exact is_row hv hq | exact is_pn hv hq (by assumption) | assumption) rfl (Nat.le_of_ble_eq_true rfl) ⟨Nat.le_of_ble_eq_true rfl, Nat.le_of_ble_eq_true rfl⟩ (Nat.le_of_ble_eq_true rfl) rfl rfl ?_
    refine sp_X5_byteAt (by exact hv) B (j := j) (by omega) ?_
    refine ok_callS (M' := mX5_isDigit) (b' := (0, 0)) (As := [_]) dX5_advance_223 iX5_isDigit w_1101 rfl (Nat.le_of_ble_eq_true rfl) ⟨Nat.le_of_ble_eq_true rfl, Nat.le_of_ble_eq_true rfl⟩ (Nat.le_of_ble_eq_true rfl) rfl rfl ?_
    refine sp_X5_isDigit _ ?_
    rw [bd_y B.2.2.1 hjz hl]
    refine ok_if_eq (tgt := 280) dX5_advance_226 (by decide) (fun c9 => absurd c9 (by decide)) (fun _ => ?_)
    refine ok_aload_n dX5_advance_229 rfl rfl ?_
    refine ok_aload_n dX5_advance_230 rfl rfl ?_
    refine ok_getI dX5_advance_231 f_X5_185 (by first | exact is_lit hv (by decide) rfl | exact is_sq hv hq | exact is_row hv hq | exact is_pn hv hq (by assumption) | assumption) rfl ?_
    rw [e12]
    refine ok_bipush (v := 99) dX5_advance_234 (by decide) ?_
    refine ok_icmp_le (tgt := 245) dX5_advance_236 (by decide) (fun c_236 => ?_) (fun c_236 => ?_)
    · refine ok_bipush (v := 10) dX5_advance_245 (by decide) ?_
      refine ok_aload_n dX5_advance_247 rfl rfl ?_
      refine ok_getI dX5_advance_248 f_X5_185 (by first | exact is_lit hv (by decide) rfl | exact is_sq hv hq | exact is_row hv hq | exact is_pn hv hq (by assumption) | assumption) rfl ?_
      rw [e12]
      refine ok_imul dX5_advance_251 ?_
      refine ok_aload_n dX5_advance_252 rfl rfl ?_
      refine ok_aload_n dX5_advance_253 rfl rfl ?_
      refine ok_getI dX5_advance_254 f_X5_163 (by first | exact is_lit hv (by decide) rfl | exact is_sq hv hq | exact is_row hv hq | exact is_pn hv hq (by assumption) | assumption) rfl ?_
      rw [e10]
      refine ok_callV (M' := mX5_byteAt) (b' := (0, 0)) (As := [_]) (cx := 5) dX5_advance_257 iX5_byteAt w_1094 (by decide) rfl (by first | exact is_lit hv (by decide) rfl | exact is_sq hv hq | exact is_row hv hq | exact is_pn hv hq (by assumption) | assumption) rfl (Nat.le_of_ble_eq_true rfl) ⟨Nat.le_of_ble_eq_true rfl, Nat.le_of_ble_eq_true rfl⟩ (Nat.le_of_ble_eq_true rfl) rfl rfl ?_
      refine sp_X5_byteAt (by exact hv) B (j := j) (by omega) ?_
      rw [bA_lt hjz]
      refine ok_iadd dX5_advance_260 ?_
      refine ok_bipush (v := 48) dX5_advance_261 (by decide) ?_
      refine ok_isub dX5_advance_263 ?_
      refine ok_putI dX5_advance_264 f_X5_185 (by first | exact is_lit hv (by decide) rfl | exact is_sq hv hq | exact is_row hv hq | exact is_pn hv hq (by assumption) | assumption) rfl rfl rfl rfl ?_
      refine ok_aload_n dX5_advance_267 rfl rfl ?_
      refine ok_dup dX5_advance_268 rfl ?_
      refine ok_getI dX5_advance_269 f_X5_163 (by first | exact is_lit hv (by decide) rfl | exact is_sq hv hq | exact is_row hv hq | exact is_pn hv hq (by assumption) | assumption) rfl ?_
      simp only [at_uo, at_lu, hl_u, hl_lu, ↓reduceIte, Nat.reduceEqDiff, Nat.reduceEqDiff, e10]
      refine ok_iconst (v := 1) dX5_advance_272 (by decide) ?_
      refine ok_iadd dX5_advance_273 ?_
      refine ok_putI dX5_advance_274 f_X5_163 (by first | exact is_lit hv (by decide) rfl | exact is_sq hv hq | exact is_row hv hq | exact is_pn hv hq (by assumption) | assumption) rfl rfl rfl rfl ?_
      refine ok_goto (tgt := 207) dX5_advance_277 (by decide) ?_
      rw [nI_1]
      refine ih (j + 1) _ (by omega) (by omega) ((F.u (by decide) (by decide)).u (by decide) (by decide)) ((at_un (by decide)).trans ((at_un (by decide)).trans e8)) ((at_un (by decide)).trans ((at_un (by decide)).trans e9)) at_uI (((at_un (by decide)).trans at_uI).trans ?_) ((at_un (by decide)).trans ((at_un (by decide)).trans gd))
      rw [ew]
      first | rw [if_pos c_236] | rw [if_neg c_236]
    · refine ok_sipush (v := 1000) dX5_advance_239 (by decide) ?_
      refine ok_goto (tgt := 264) dX5_advance_242 (by decide) ?_
      refine ok_putI dX5_advance_264 f_X5_185 (by first | exact is_lit hv (by decide) rfl | exact is_sq hv hq | exact is_row hv hq | exact is_pn hv hq (by assumption) | assumption) rfl rfl rfl rfl ?_
      refine ok_aload_n dX5_advance_267 rfl rfl ?_
      refine ok_dup dX5_advance_268 rfl ?_
      refine ok_getI dX5_advance_269 f_X5_163 (by first | exact is_lit hv (by decide) rfl | exact is_sq hv hq | exact is_row hv hq | exact is_pn hv hq (by assumption) | assumption) rfl ?_
      simp only [at_uo, at_lu, hl_u, hl_lu, ↓reduceIte, Nat.reduceEqDiff, Nat.reduceEqDiff, e10]
      refine ok_iconst (v := 1) dX5_advance_272 (by decide) ?_
      refine ok_iadd dX5_advance_273 ?_
      refine ok_putI dX5_advance_274 f_X5_163 (by first | exact is_lit hv (by decide) rfl | exact is_sq hv hq | exact is_row hv hq | exact is_pn hv hq (by assumption) | assumption) rfl rfl rfl rfl ?_
      refine ok_goto (tgt := 207) dX5_advance_277 (by decide) ?_
      rw [nI_1]
      refine ih (j + 1) _ (by omega) (by omega) ((F.u (by decide) (by decide)).u (by decide) (by decide)) ((at_un (by decide)).trans ((at_un (by decide)).trans e8)) ((at_un (by decide)).trans ((at_un (by decide)).trans e9)) at_uI (((at_un (by decide)).trans at_uI).trans ?_) ((at_un (by decide)).trans ((at_un (by decide)).trans gd))
      rw [ew]
      first | rw [if_pos c_236] | rw [if_neg c_236]
theorem lp_X5_advance_34 {g : GG} {h0 : Hp} {Post : Option Value → Hp → Prop} (hv0 : Inv h0) {T : Nat → Nat} {z : Nat} (B0 : MT h0 T z) {k : Nat} (hk : k ≤ z) {x1 : Option Value} (K : ∀ h', FA h0 h' → hI h' 49 13 = hI h0 49 13 → TkM h' T z k → Post none h') {h : Hp} (F : FA h0 h) (e9 : hI h 49 9 = nI (tF T z k)) (gd : hI h 49 13 = hI h0 49 13) : Go g mX5_advance 34 [some (.ref 49), x1] [] h (0, 0) Post := by
  have hz := B0.1
  have hF := tF_le (T := T) hk
  have hv := F.inv hv0
  have B := F.mt B0
  have B1 : MT (uI h 49 10 (nI (tF T z k))) T z := (F.u (k := 10) (by decide) (by decide)).mt B0
  by_cases c0 : z ≤ tF T z k
  · refine ok_aload_n dX5_advance_34 rfl rfl ?_
    refine ok_aload_n dX5_advance_35 rfl rfl ?_
    refine ok_getI dX5_advance_36 f_X5_166 (by first | exact is_lit hv (by decide) rfl | exact is_sq hv hq | exact is_row hv hq | exact is_pn hv hq (by assumption) | assumption) rfl ?_
    rw [e9]
    refine ok_putI dX5_advance_39 f_X5_163 (by first | exact is_lit hv (by decide) rfl | exact is_sq hv hq | exact is_row hv hq | exact is_pn hv hq (by assumption) | assumption) rfl rfl rfl rfl ?_
    refine ok_aload_n dX5_advance_42 rfl rfl ?_
    refine ok_aload_n dX5_advance_43 rfl rfl ?_
    refine ok_getI dX5_advance_44 f_X5_166 (by first | exact is_lit hv (by decide) rfl | exact is_sq hv hq | exact is_row hv hq | exact is_pn hv hq (by assumption) | assumption) rfl ?_
    simp only [at_uo, at_lu, hl_u, hl_lu, ↓reduceIte, Nat.reduceEqDiff, Nat.reduceEqDiff, e9]
    refine ok_callV (M' := mX5_byteAt) (b' := (0, 0)) (As := [_]) (cx := 5) dX5_advance_47 iX5_byteAt w_1094 (by decide) rfl (by first | exact is_lit hv (by decide) rfl | exact is_sq hv hq | exact is_row hv hq | exact is_pn hv hq (by assumption) | assumption) rfl (Nat.le_of_ble_eq_true rfl) ⟨Nat.le_of_ble_eq_true rfl, Nat.le_of_ble_eq_true rfl⟩ (Nat.le_of_ble_eq_true rfl) rfl rfl ?_
    refine sp_X5_byteAt (by exact hv) B1 (j := tF T z k) (by omega) ?_
    rw [bA_ge c0]
    refine ok_istore_n (lo' := [_, _]) dX5_advance_50 rfl (Nat.le_of_ble_eq_true rfl) rfl rfl ?_
    refine ok_aload_n dX5_advance_51 rfl rfl ?_
    refine ok_iload_n dX5_advance_52 rfl rfl ?_
    refine ok_if_ge (tgt := 60) dX5_advance_53 (by decide) (fun c9 => absurd c9 (by decide)) (fun _ => ?_)
    refine ok_iconst (v := 0) dX5_advance_56 (by decide) ?_
    refine ok_goto (tgt := 83) dX5_advance_57 (by decide) ?_
    refine ok_putI dX5_advance_83 f_X5_178 (by first | exact is_lit hv (by decide) rfl | exact is_sq hv hq | exact is_row hv hq | exact is_pn hv hq (by assumption) | assumption) rfl rfl rfl rfl ?_
    refine ok_aload_n dX5_advance_86 rfl rfl ?_
    refine ok_lconst (v := 0) dX5_advance_87 (by decide) ?_
    refine ok_putL dX5_advance_88 f_X5_181 (by first | exact is_lit hv (by decide) rfl | exact is_sq hv hq | exact is_row hv hq | exact is_pn hv hq (by assumption) | assumption) rfl rfl rfl rfl ?_
    refine ok_aload_n dX5_advance_91 rfl rfl ?_
    refine ok_aload_n dX5_advance_92 rfl rfl ?_
    refine ok_getI dX5_advance_93 f_X5_178 (by first | exact is_lit hv (by decide) rfl | exact is_sq hv hq | exact is_row hv hq | exact is_pn hv hq (by assumption) | assumption) rfl ?_
    simp only [at_uo, at_lu, hl_u, hl_lu, ↓reduceIte, Nat.reduceEqDiff, Nat.reduceEqDiff]
    refine ok_iconst (v := 2) dX5_advance_96 (by decide) ?_
    refine ok_icmp_ne (tgt := 104) dX5_advance_97 (by decide) (fun _ => ?_) (fun c9 => absurd c9 (by decide))
    refine ok_iload_n dX5_advance_104 rfl rfl ?_
    refine ok_putI dX5_advance_105 f_X5_185 (by first | exact is_lit hv (by decide) rfl | exact is_sq hv hq | exact is_row hv hq | exact is_pn hv hq (by assumption) | assumption) rfl rfl rfl rfl ?_
    refine ok_aload_n dX5_advance_108 rfl rfl ?_
    refine ok_getI dX5_advance_109 f_X5_178 (by first | exact is_lit hv (by decide) rfl | exact is_sq hv hq | exact is_row hv hq | exact is_pn hv hq (by assumption) | assumption) rfl ?_
    simp only [at_uo, at_lu, hl_u, hl_lu, ↓reduceIte, Nat.reduceEqDiff, Nat.reduceEqDiff]
    refine ok_iconst (v := 3) dX5_advance_112 (by decide) ?_
    refine ok_icmp_ne (tgt := 126) dX5_advance_113 (by decide) (fun _ => ?_) (fun c9 => absurd c9 (by decide))
    refine ok_aload_n dX5_advance_126 rfl rfl ?_
    refine ok_getI dX5_advance_127 f_X5_178 (by first | exact is_lit hv (by decide) rfl | exact is_sq hv hq | exact is_row hv hq | exact is_pn hv hq (by assumption) | assumption) rfl ?_
    simp only [at_uo, at_lu, hl_u, hl_lu, ↓reduceIte, Nat.reduceEqDiff, Nat.reduceEqDiff]
    refine ok_iconst (v := 1) dX5_advance_130 (by decide) ?_
    refine ok_icmp_ne (tgt := 207) dX5_advance_131 (by decide) (fun _ => ?_) (fun c9 => absurd c9 (by decide))
    refine ok_aload_n dX5_advance_207 rfl rfl ?_
    refine ok_getI dX5_advance_208 f_X5_178 (by first | exact is_lit hv (by decide) rfl | exact is_sq hv hq | exact is_row hv hq | exact is_pn hv hq (by assumption) | assumption) rfl ?_
    simp only [at_uo, at_lu, hl_u, hl_lu, ↓reduceIte, Nat.reduceEqDiff, Nat.reduceEqDiff]
    refine ok_iconst (v := 2) dX5_advance_211 (by decide) ?_
    refine ok_icmp_ne (tgt := 280) dX5_advance_212 (by decide) (fun _ => ?_) (fun c9 => absurd c9 (by decide))
    refine ok_return dX5_advance_280 rfl ?_
    have t0 : tT T z k = 0 := if_pos c0
    have eB : tB T z k = tF T z k := by unfold tB; rw [if_pos t0]
    refine K _ ((((F.u (by decide) (by decide)).u (by decide) (by decide)).l).u (by decide) (by decide)) ?_ ⟨?_, ?_, ?_, fun c => by omega, fun c => by omega, fun c => by omega⟩
    · simp only [at_uo, at_lu, ↓reduceIte, Nat.reduceEqDiff]; exact gd
    · simp only [at_uo, at_lu, ↓reduceIte, Nat.reduceEqDiff, t0]; rfl
    · simp only [at_uo, at_lu, ↓reduceIte, Nat.reduceEqDiff]; exact e9
    · simp only [at_uo, at_lu, ↓reduceIte, Nat.reduceEqDiff, eB]
  · have cz : tF T z k < z := by omega
    have h255 := B.2.2.1 (tF T z k)
    by_cases cl : isL (T (tF T z k)) = true
    · have t1 : tT T z k = 1 := by unfold tT; rw [if_neg c0, if_pos cl]
      refine ok_aload_n dX5_advance_34 rfl rfl ?_
      refine ok_aload_n dX5_advance_35 rfl rfl ?_
      refine ok_getI dX5_advance_36 f_X5_166 (by first | exact is_lit hv (by decide) rfl | exact is_sq hv hq | exact is_row hv hq | exact is_pn hv hq (by assumption) | assumption) rfl ?_
      rw [e9]
      refine ok_putI dX5_advance_39 f_X5_163 (by first | exact is_lit hv (by decide) rfl | exact is_sq hv hq | exact is_row hv hq | exact is_pn hv hq (by assumption) | assumption) rfl rfl rfl rfl ?_
      refine ok_aload_n dX5_advance_42 rfl rfl ?_
      refine ok_aload_n dX5_advance_43 rfl rfl ?_
      refine ok_getI dX5_advance_44 f_X5_166 (by first | exact is_lit hv (by decide) rfl | exact is_sq hv hq | exact is_row hv hq | exact is_pn hv hq (by assumption) | assumption) rfl ?_
      simp only [at_uo, at_lu, hl_u, hl_lu, ↓reduceIte, Nat.reduceEqDiff, Nat.reduceEqDiff, e9]
      refine ok_callV (M' := mX5_byteAt) (b' := (0, 0)) (As := [_]) (cx := 5) dX5_advance_47 iX5_byteAt w_1094 (by decide) rfl (by first | exact is_lit hv (by decide) rfl | exact is_sq hv hq | exact is_row hv hq | exact is_pn hv hq (by assumption) | assumption) rfl (Nat.le_of_ble_eq_true rfl) ⟨Nat.le_of_ble_eq_true rfl, Nat.le_of_ble_eq_true rfl⟩ (Nat.le_of_ble_eq_true rfl) rfl rfl ?_
      refine sp_X5_byteAt (by exact hv) B1 (j := tF T z k) (by omega) ?_
      refine ok_istore_n (lo' := [_, _]) dX5_advance_50 rfl (Nat.le_of_ble_eq_true rfl) rfl rfl ?_
      refine ok_aload_n dX5_advance_51 rfl rfl ?_
      refine ok_iload_n dX5_advance_52 rfl rfl ?_
      rw [bA_lt cz]
      refine ok_if_ge (tgt := 60) dX5_advance_53 (by decide) (fun _ => ?_) (fun c9 => absurd (nI_pos' (by omega)) c9)
      refine ok_iload_n dX5_advance_60 rfl rfl ?_
      refine ok_callS (M' := mX5_isLetter) (b' := (0, 0)) (As := [_]) dX5_advance_61 iX5_isLetter w_1098 rfl (Nat.le_of_ble_eq_true rfl) ⟨Nat.le_of_ble_eq_true rfl, Nat.le_of_ble_eq_true rfl⟩ (Nat.le_of_ble_eq_true rfl) rfl rfl ?_
      refine sp_X5_isLetter _ ?_
      rw [nb_L _ h255, if_pos cl]
      refine ok_if_eq (tgt := 71) dX5_advance_64 (by decide) (fun c9 => absurd c9 (by decide)) (fun _ => ?_)
      refine ok_iconst (v := 1) dX5_advance_67 (by decide) ?_
      refine ok_goto (tgt := 83) dX5_advance_68 (by decide) ?_
      refine ok_putI dX5_advance_83 f_X5_178 (by first | exact is_lit hv (by decide) rfl | exact is_sq hv hq | exact is_row hv hq | exact is_pn hv hq (by assumption) | assumption) rfl rfl rfl rfl ?_
      refine ok_aload_n dX5_advance_86 rfl rfl ?_
      refine ok_lconst (v := 0) dX5_advance_87 (by decide) ?_
      refine ok_putL dX5_advance_88 f_X5_181 (by first | exact is_lit hv (by decide) rfl | exact is_sq hv hq | exact is_row hv hq | exact is_pn hv hq (by assumption) | assumption) rfl rfl rfl rfl ?_
      refine ok_aload_n dX5_advance_91 rfl rfl ?_
      refine ok_aload_n dX5_advance_92 rfl rfl ?_
      refine ok_getI dX5_advance_93 f_X5_178 (by first | exact is_lit hv (by decide) rfl | exact is_sq hv hq | exact is_row hv hq | exact is_pn hv hq (by assumption) | assumption) rfl ?_
      simp only [at_uo, at_lu, hl_u, hl_lu, ↓reduceIte, Nat.reduceEqDiff, Nat.reduceEqDiff]
      refine ok_iconst (v := 2) dX5_advance_96 (by decide) ?_
      refine ok_icmp_ne (tgt := 104) dX5_advance_97 (by decide) (fun _ => ?_) (fun c9 => absurd c9 (by decide))
      refine ok_iload_n dX5_advance_104 rfl rfl ?_
      refine ok_putI dX5_advance_105 f_X5_185 (by first | exact is_lit hv (by decide) rfl | exact is_sq hv hq | exact is_row hv hq | exact is_pn hv hq (by assumption) | assumption) rfl rfl rfl rfl ?_
      refine ok_aload_n dX5_advance_108 rfl rfl ?_
      refine ok_getI dX5_advance_109 f_X5_178 (by first | exact is_lit hv (by decide) rfl | exact is_sq hv hq | exact is_row hv hq | exact is_pn hv hq (by assumption) | assumption) rfl ?_
      simp only [at_uo, at_lu, hl_u, hl_lu, ↓reduceIte, Nat.reduceEqDiff, Nat.reduceEqDiff]
      refine ok_iconst (v := 3) dX5_advance_112 (by decide) ?_
      refine ok_icmp_ne (tgt := 126) dX5_advance_113 (by decide) (fun _ => ?_) (fun c9 => absurd c9 (by decide))
      refine lp_X5_advance_126 hv0 B0 hk t1 K _ (tF T z k) _ (by have := (rne_run isL T z (tF T z k)).1; exact Nat.add_sub_cancel' this) (Nat.le_refl _) ((((F.u (by decide) (by decide)).u (by decide) (by decide)).l).u (by decide) (by decide)) ?_ ?_ ?_ ?_ ?_
      · simp only [at_uo, at_lu, ↓reduceIte, Nat.reduceEqDiff]
      · simp only [at_uo, at_lu, ↓reduceIte, Nat.reduceEqDiff]; exact e9
      · simp only [at_uo, at_lu, ↓reduceIte, Nat.reduceEqDiff]
      · rw [Nat.sub_self]; simp only [hl_u, hl_lu, ↓reduceIte]; rfl
      · simp only [at_uo, at_lu, ↓reduceIte, Nat.reduceEqDiff]; exact gd
    · by_cases cd : isD (T (tF T z k)) = true
      · have t2 : tT T z k = 2 := by unfold tT; rw [if_neg c0, if_neg cl, if_pos cd]
        refine ok_aload_n dX5_advance_34 rfl rfl ?_
        refine ok_aload_n dX5_advance_35 rfl rfl ?_
        refine ok_getI dX5_advance_36 f_X5_166 (by first | exact is_lit hv (by decide) rfl | exact is_sq hv hq | exact is_row hv hq | exact is_pn hv hq (by assumption) | assumption) rfl ?_
        rw [e9]
        refine ok_putI dX5_advance_39 f_X5_163 (by first | exact is_lit hv (by decide) rfl | exact is_sq hv hq | exact is_row hv hq | exact is_pn hv hq (by assumption) | assumption) rfl rfl rfl rfl ?_
        refine ok_aload_n dX5_advance_42 rfl rfl ?_
        refine ok_aload_n dX5_advance_43 rfl rfl ?_
        refine ok_getI dX5_advance_44 f_X5_166 (by first | exact is_lit hv (by decide) rfl | exact is_sq hv hq | exact is_row hv hq | exact is_pn hv hq (by assumption) | assumption) rfl ?_
        simp only [at_uo, at_lu, hl_u, hl_lu, ↓reduceIte, Nat.reduceEqDiff, Nat.reduceEqDiff, e9]
        refine ok_callV (M' := mX5_byteAt) (b' := (0, 0)) (As := [_]) (cx := 5) dX5_advance_47 iX5_byteAt w_1094 (by decide) rfl (by first | exact is_lit hv (by decide) rfl | exact is_sq hv hq | exact is_row hv hq | exact is_pn hv hq (by assumption) | assumption) rfl (Nat.le_of_ble_eq_true rfl) ⟨Nat.le_of_ble_eq_true rfl, Nat.le_of_ble_eq_true rfl⟩ (Nat.le_of_ble_eq_true rfl) rfl rfl ?_
        refine sp_X5_byteAt (by exact hv) B1 (j := tF T z k) (by omega) ?_
        refine ok_istore_n (lo' := [_, _]) dX5_advance_50 rfl (Nat.le_of_ble_eq_true rfl) rfl rfl ?_
        refine ok_aload_n dX5_advance_51 rfl rfl ?_
        refine ok_iload_n dX5_advance_52 rfl rfl ?_
        rw [bA_lt cz]
        refine ok_if_ge (tgt := 60) dX5_advance_53 (by decide) (fun _ => ?_) (fun c9 => absurd (nI_pos' (by omega)) c9)
        refine ok_iload_n dX5_advance_60 rfl rfl ?_
        refine ok_callS (M' := mX5_isLetter) (b' := (0, 0)) (As := [_]) dX5_advance_61 iX5_isLetter w_1098 rfl (Nat.le_of_ble_eq_true rfl) ⟨Nat.le_of_ble_eq_true rfl, Nat.le_of_ble_eq_true rfl⟩ (Nat.le_of_ble_eq_true rfl) rfl rfl ?_
        refine sp_X5_isLetter _ ?_
        rw [nb_L _ h255, if_neg cl]
        refine ok_if_eq (tgt := 71) dX5_advance_64 (by decide) (fun _ => ?_) (fun c9 => absurd rfl c9)
        refine ok_iload_n dX5_advance_71 rfl rfl ?_
        refine ok_callS (M' := mX5_isDigit) (b' := (0, 0)) (As := [_]) dX5_advance_72 iX5_isDigit w_1101 rfl (Nat.le_of_ble_eq_true rfl) ⟨Nat.le_of_ble_eq_true rfl, Nat.le_of_ble_eq_true rfl⟩ (Nat.le_of_ble_eq_true rfl) rfl rfl ?_
        refine sp_X5_isDigit _ ?_
        rw [nb_D _ h255, if_pos cd]
        refine ok_if_eq (tgt := 82) dX5_advance_75 (by decide) (fun c9 => absurd c9 (by decide)) (fun _ => ?_)
        refine ok_iconst (v := 2) dX5_advance_78 (by decide) ?_
        refine ok_goto (tgt := 83) dX5_advance_79 (by decide) ?_
        refine ok_putI dX5_advance_83 f_X5_178 (by first | exact is_lit hv (by decide) rfl | exact is_sq hv hq | exact is_row hv hq | exact is_pn hv hq (by assumption) | assumption) rfl rfl rfl rfl ?_
        refine ok_aload_n dX5_advance_86 rfl rfl ?_
        refine ok_lconst (v := 0) dX5_advance_87 (by decide) ?_
        refine ok_putL dX5_advance_88 f_X5_181 (by first | exact is_lit hv (by decide) rfl | exact is_sq hv hq | exact is_row hv hq | exact is_pn hv hq (by assumption) | assumption) rfl rfl rfl rfl ?_
        refine ok_aload_n dX5_advance_91 rfl rfl ?_
        refine ok_aload_n dX5_advance_92 rfl rfl ?_
        refine ok_getI dX5_advance_93 f_X5_178 (by first | exact is_lit hv (by decide) rfl | exact is_sq hv hq | exact is_row hv hq | exact is_pn hv hq (by assumption) | assumption) rfl ?_
        simp only [at_uo, at_lu, hl_u, hl_lu, ↓reduceIte, Nat.reduceEqDiff, Nat.reduceEqDiff]
        refine ok_iconst (v := 2) dX5_advance_96 (by decide) ?_
        refine ok_icmp_ne (tgt := 104) dX5_advance_97 (by decide) (fun c9 => absurd c9 (fun c => c rfl)) (fun _ => ?_)
        refine ok_iconst (v := 0) dX5_advance_100 (by decide) ?_
        refine ok_goto (tgt := 105) dX5_advance_101 (by decide) ?_
        refine ok_putI dX5_advance_105 f_X5_185 (by first | exact is_lit hv (by decide) rfl | exact is_sq hv hq | exact is_row hv hq | exact is_pn hv hq (by assumption) | assumption) rfl rfl rfl rfl ?_
        refine ok_aload_n dX5_advance_108 rfl rfl ?_
        refine ok_getI dX5_advance_109 f_X5_178 (by first | exact is_lit hv (by decide) rfl | exact is_sq hv hq | exact is_row hv hq | exact is_pn hv hq (by assumption) | assumption) rfl ?_
        simp only [at_uo, at_lu, hl_u, hl_lu, ↓reduceIte, Nat.reduceEqDiff, Nat.reduceEqDiff]
        refine ok_iconst (v := 3) dX5_advance_112 (by decide) ?_
        refine ok_icmp_ne (tgt := 126) dX5_advance_113 (by decide) (fun _ => ?_) (fun c9 => absurd c9 (by decide))
        refine ok_aload_n dX5_advance_126 rfl rfl ?_
        refine ok_getI dX5_advance_127 f_X5_178 (by first | exact is_lit hv (by decide) rfl | exact is_sq hv hq | exact is_row hv hq | exact is_pn hv hq (by assumption) | assumption) rfl ?_
        simp only [at_uo, at_lu, hl_u, hl_lu, ↓reduceIte, Nat.reduceEqDiff, Nat.reduceEqDiff]
        refine ok_iconst (v := 1) dX5_advance_130 (by decide) ?_
        refine ok_icmp_ne (tgt := 207) dX5_advance_131 (by decide) (fun _ => ?_) (fun c9 => absurd c9 (by decide))
        refine lp_X5_advance_207 hv0 B0 hk t2 K _ (tF T z k) _ (by have := (rne_run isD T z (tF T z k)).1; exact Nat.add_sub_cancel' this) (Nat.le_refl _) ((((F.u (by decide) (by decide)).u (by decide) (by decide)).l).u (by decide) (by decide)) ?_ ?_ ?_ ?_ ?_
        · simp only [at_uo, at_lu, ↓reduceIte, Nat.reduceEqDiff]
        · simp only [at_uo, at_lu, ↓reduceIte, Nat.reduceEqDiff]; exact e9
        · simp only [at_uo, at_lu, ↓reduceIte, Nat.reduceEqDiff]
        · rw [Nat.sub_self]; simp only [at_uo, ↓reduceIte]; rfl
        · simp only [at_uo, at_lu, ↓reduceIte, Nat.reduceEqDiff]; exact gd
      · refine ok_aload_n dX5_advance_34 rfl rfl ?_
        refine ok_aload_n dX5_advance_35 rfl rfl ?_
        refine ok_getI dX5_advance_36 f_X5_166 (by first | exact is_lit hv (by decide) rfl | exact is_sq hv hq | exact is_row hv hq | exact is_pn hv hq (by assumption) | assumption) rfl ?_
        rw [e9]
        refine ok_putI dX5_advance_39 f_X5_163 (by first | exact is_lit hv (by decide) rfl | exact is_sq hv hq | exact is_row hv hq | exact is_pn hv hq (by assumption) | assumption) rfl rfl rfl rfl ?_
        refine ok_aload_n dX5_advance_42 rfl rfl ?_
        refine ok_aload_n dX5_advance_43 rfl rfl ?_
        refine ok_getI dX5_advance_44 f_X5_166 (by first | exact is_lit hv (by decide) rfl | exact is_sq hv hq | exact is_row hv hq | exact is_pn hv hq (by assumption) | assumption) rfl ?_
        simp only [at_uo, at_lu, hl_u, hl_lu, ↓reduceIte, Nat.reduceEqDiff, Nat.reduceEqDiff, e9]
        refine ok_callV (M' := mX5_byteAt) (b' := (0, 0)) (As := [_]) (cx := 5) dX5_advance_47 iX5_byteAt w_1094 (by decide) rfl (by first | exact is_lit hv (by decide) rfl | exact is_sq hv hq | exact is_row hv hq | exact is_pn hv hq (by assumption) | assumption) rfl (Nat.le_of_ble_eq_true rfl) ⟨Nat.le_of_ble_eq_true rfl, Nat.le_of_ble_eq_true rfl⟩ (Nat.le_of_ble_eq_true rfl) rfl rfl ?_
        refine sp_X5_byteAt (by exact hv) B1 (j := tF T z k) (by omega) ?_
        refine ok_istore_n (lo' := [_, _]) dX5_advance_50 rfl (Nat.le_of_ble_eq_true rfl) rfl rfl ?_
        refine ok_aload_n dX5_advance_51 rfl rfl ?_
        refine ok_iload_n dX5_advance_52 rfl rfl ?_
        rw [bA_lt cz]
        refine ok_if_ge (tgt := 60) dX5_advance_53 (by decide) (fun _ => ?_) (fun c9 => absurd (nI_pos' (by omega)) c9)
        refine ok_iload_n dX5_advance_60 rfl rfl ?_
        refine ok_callS (M' := mX5_isLetter) (b' := (0, 0)) (As := [_]) dX5_advance_61 iX5_isLetter w_1098 rfl (Nat.le_of_ble_eq_true rfl) ⟨Nat.le_of_ble_eq_true rfl, Nat.le_of_ble_eq_true rfl⟩ (Nat.le_of_ble_eq_true rfl) rfl rfl ?_
        refine sp_X5_isLetter _ ?_
        rw [nb_L _ h255, if_neg cl]
        refine ok_if_eq (tgt := 71) dX5_advance_64 (by decide) (fun _ => ?_) (fun c9 => absurd rfl c9)
        refine ok_iload_n dX5_advance_71 rfl rfl ?_
        refine ok_callS (M' := mX5_isDigit) (b' := (0, 0)) (As := [_]) dX5_advance_72 iX5_isDigit w_1101 rfl (Nat.le_of_ble_eq_true rfl) ⟨Nat.le_of_ble_eq_true rfl, Nat.le_of_ble_eq_true rfl⟩ (Nat.le_of_ble_eq_true rfl) rfl rfl ?_
        refine sp_X5_isDigit _ ?_
        rw [nb_D _ h255, if_neg cd]
        refine ok_if_eq (tgt := 82) dX5_advance_75 (by decide) (fun _ => ?_) (fun c9 => absurd rfl c9)
        refine ok_iconst (v := 3) dX5_advance_82 (by decide) ?_
        refine ok_putI dX5_advance_83 f_X5_178 (by first | exact is_lit hv (by decide) rfl | exact is_sq hv hq | exact is_row hv hq | exact is_pn hv hq (by assumption) | assumption) rfl rfl rfl rfl ?_
        refine ok_aload_n dX5_advance_86 rfl rfl ?_
        refine ok_lconst (v := 0) dX5_advance_87 (by decide) ?_
        refine ok_putL dX5_advance_88 f_X5_181 (by first | exact is_lit hv (by decide) rfl | exact is_sq hv hq | exact is_row hv hq | exact is_pn hv hq (by assumption) | assumption) rfl rfl rfl rfl ?_
        refine ok_aload_n dX5_advance_91 rfl rfl ?_
        refine ok_aload_n dX5_advance_92 rfl rfl ?_
        refine ok_getI dX5_advance_93 f_X5_178 (by first | exact is_lit hv (by decide) rfl | exact is_sq hv hq | exact is_row hv hq | exact is_pn hv hq (by assumption) | assumption) rfl ?_
        simp only [at_uo, at_lu, hl_u, hl_lu, ↓reduceIte, Nat.reduceEqDiff, Nat.reduceEqDiff]
        refine ok_iconst (v := 2) dX5_advance_96 (by decide) ?_
        refine ok_icmp_ne (tgt := 104) dX5_advance_97 (by decide) (fun _ => ?_) (fun c9 => absurd c9 (by decide))
        refine ok_iload_n dX5_advance_104 rfl rfl ?_
        refine ok_putI dX5_advance_105 f_X5_185 (by first | exact is_lit hv (by decide) rfl | exact is_sq hv hq | exact is_row hv hq | exact is_pn hv hq (by assumption) | assumption) rfl rfl rfl rfl ?_
        refine ok_aload_n dX5_advance_108 rfl rfl ?_
        refine ok_getI dX5_advance_109 f_X5_178 (by first | exact is_lit hv (by decide) rfl | exact is_sq hv hq | exact is_row hv hq | exact is_pn hv hq (by assumption) | assumption) rfl ?_
        simp only [at_uo, at_lu, hl_u, hl_lu, ↓reduceIte, Nat.reduceEqDiff, Nat.reduceEqDiff]
        refine ok_iconst (v := 3) dX5_advance_112 (by decide) ?_
        refine ok_icmp_ne (tgt := 126) dX5_advance_113 (by decide) (fun c9 => absurd c9 (fun c => c rfl)) (fun _ => ?_)
        refine ok_aload_n dX5_advance_116 rfl rfl ?_
        refine ok_dup dX5_advance_117 rfl ?_
        refine ok_getI dX5_advance_118 f_X5_163 (by first | exact is_lit hv (by decide) rfl | exact is_sq hv hq | exact is_row hv hq | exact is_pn hv hq (by assumption) | assumption) rfl ?_
        simp only [at_uo, at_lu, hl_u, hl_lu, ↓reduceIte, Nat.reduceEqDiff, Nat.reduceEqDiff]
        refine ok_iconst (v := 1) dX5_advance_121 (by decide) ?_
        refine ok_iadd dX5_advance_122 ?_
        refine ok_putI dX5_advance_123 f_X5_163 (by first | exact is_lit hv (by decide) rfl | exact is_sq hv hq | exact is_row hv hq | exact is_pn hv hq (by assumption) | assumption) rfl rfl rfl rfl ?_
        refine ok_aload_n dX5_advance_126 rfl rfl ?_
        refine ok_getI dX5_advance_127 f_X5_178 (by first | exact is_lit hv (by decide) rfl | exact is_sq hv hq | exact is_row hv hq | exact is_pn hv hq (by assumption) | assumption) rfl ?_
        simp only [at_uo, at_lu, hl_u, hl_lu, ↓reduceIte, Nat.reduceEqDiff, Nat.reduceEqDiff]
        refine ok_iconst (v := 1) dX5_advance_130 (by decide) ?_
        refine ok_icmp_ne (tgt := 207) dX5_advance_131 (by decide) (fun _ => ?_) (fun c9 => absurd c9 (by decide))
        refine ok_aload_n dX5_advance_207 rfl rfl ?_
        refine ok_getI dX5_advance_208 f_X5_178 (by first | exact is_lit hv (by decide) rfl | exact is_sq hv hq | exact is_row hv hq | exact is_pn hv hq (by assumption) | assumption) rfl ?_
        simp only [at_uo, at_lu, hl_u, hl_lu, ↓reduceIte, Nat.reduceEqDiff, Nat.reduceEqDiff]
        refine ok_iconst (v := 2) dX5_advance_211 (by decide) ?_
        refine ok_icmp_ne (tgt := 280) dX5_advance_212 (by decide) (fun _ => ?_) (fun c9 => absurd c9 (by decide))
        refine ok_return dX5_advance_280 rfl ?_
        have eT : tT T z k = sgn (T (tF T z k)) := by unfold tT; rw [if_neg c0, if_neg cl, if_neg cd]
        have s3 := sgn_3 (T (tF T z k))
        have eB : tB T z k = tF T z k + 1 := by unfold tB; rw [if_neg (by omega), if_neg (by omega), if_neg (by omega)]
        refine K _ (((((F.u (by decide) (by decide)).u (by decide) (by decide)).l).u (by decide) (by decide)).u (by decide) (by decide)) ?_ ⟨?_, ?_, ?_, fun c => by omega, fun c => by omega, fun c => ?_⟩
        · simp only [at_uo, at_lu, ↓reduceIte, Nat.reduceEqDiff]; exact gd
        · simp only [at_uo, at_lu, ↓reduceIte, Nat.reduceEqDiff, show min 3 (tT T z k) = 3 by omega]; rfl
        · simp only [at_uo, at_lu, ↓reduceIte, Nat.reduceEqDiff]; exact e9
        · simp only [at_uo, at_lu, ↓reduceIte, Nat.reduceEqDiff, eB, nI_1]
        · simp only [at_uo, at_lu, ↓reduceIte, Nat.reduceEqDiff]
theorem sp_X5_advance {g : GG} {h : Hp} {Post : Option Value → Hp → Prop} (hv : Inv h) {T : Nat → Nat} {z : Nat} (B : MT h T z) {k : Nat} (hk : k ≤ z) (e10 : hI h 49 10 = nI k) (K : ∀ h', FA h h' → hI h' 49 13 = hI h 49 13 → TkM h' T z k → Post none h') : Sp g mX5_advance [.ref 49] h Post := by
  show Go g mX5_advance 0 [_, _] [] _ _ _
  refine ok_aload_n dX5_advance_0 rfl rfl ?_
  refine ok_aload_n dX5_advance_1 rfl rfl ?_
  refine ok_getI dX5_advance_2 f_X5_163 (by first | exact is_lit hv (by decide) rfl | exact is_sq hv hq | exact is_row hv hq | exact is_pn hv hq (by assumption) | assumption) rfl ?_
  rw [e10]
  refine ok_putI dX5_advance_5 f_X5_166 (by first | exact is_lit hv (by decide) rfl | exact is_sq hv hq | exact is_row hv hq | exact is_pn hv hq (by assumption) | assumption) rfl rfl rfl rfl ?_
  exact lp_X5_advance_8 hv B hk (fun h2 F2 e2 g2 => lp_X5_advance_34 hv B hk K F2 e2 g2) (tF T z k - k) k _ (by have := (tF_le (T := T) hk).1; omega) (Nat.le_refl _) (FA.rf.u (by decide) (by decide)) at_uI (at_un (by decide))
def wn (a : Nat → Nat) : Nat → Nat
  | 0 => 0
  | m + 1 => 27 * wn a m + a m
theorem wn_inj {a b : Nat → Nat} : ∀ m m', (∀ j, j < m → 1 ≤ a j ∧ a j ≤ 26) → (∀ j, j < m' → 1 ≤ b j ∧ b j ≤ 26) → wn a m = wn b m' → m = m' ∧ ∀ j, j < m → a j = b j
  | 0, 0, _, _, _ => ⟨rfl, fun j hj => absurd hj (by omega)⟩
  | 0, m' + 1, _, hb, e => by
    have := hb m' (by omega)
    rw [wn, wn] at e
    omega
  | m + 1, 0, ha, _, e => by
    have := ha m (by omega)
    rw [wn, wn] at e
    omega
  | m + 1, m' + 1, ha, hb, e => by
    have h1 := ha m (by omega)
    have h2 := hb m' (by omega)
    rw [wn, wn] at e
    have e1 : a m = b m' := by omega
    have e2 : wn a m = wn b m' := by omega
    obtain ⟨i1, i2⟩ := wn_inj m m' (fun j hj => ha j (by omega)) (fun j hj => hb j (by omega)) e2
    refine ⟨by omega, fun j hj => ?_⟩
    by_cases c : j = m
    · rw [c, e1, i1]
    · exact i2 j (by omega)
theorem wn_lt {a : Nat → Nat} : ∀ m, (∀ j, j < m → 1 ≤ a j ∧ a j ≤ 26) → wn a m < 27 ^ m
  | 0, _ => by show 0 < 1; decide
  | m + 1, h => by
    have h1 := h m (by omega)
    have h2 := wn_lt m (fun j hj => h j (by omega))
    rw [wn, Nat.pow_succ]
    omega
theorem wn_congr {a b : Nat → Nat} : ∀ m, (∀ j, j < m → a j = b j) → wn a m = wn b m
  | 0, _ => rfl
  | m + 1, h => by rw [wn, wn, wn_congr m (fun j hj => h j (by omega)), h m (by omega)]
def nL (n : Nat) : Int64 := Int64.ofNat n
theorem nL_toInt {n : Nat} (h : n < 2 ^ 63) : (nL n).toInt = n := Int64.toInt_ofNat_of_lt h
theorem l_bmod {z : Int} (h1 : -9223372036854775808 ≤ z) (h2 : z < 9223372036854775808) : z.bmod (2 ^ 64) = z := by
  rw [Int.bmod_eq_of_le (by omega) (by omega)]
theorem p27 : ∀ m, m ≤ 12 → 27 ^ m ≤ 150094635296999121 := by decide
theorem wv_n {T : Nat → Nat} {f : Nat} : ∀ m, m ≤ 12 → (∀ j, j < m → 97 ≤ T (f + j) ∧ T (f + j) ≤ 122) → wv T f m = nL (wn (fun j => T (f + j) - 96) m)
  | 0, _, _ => rfl
  | m + 1, hm, h => by
    have h1 := h m (by omega)
    have ih := wv_n (T := T) (f := f) m (by omega) (fun j hj => h j (by omega))
    have hl := wn_lt (a := fun j => T (f + j) - 96) m (fun j hj => by have := h j (by omega); show 1 ≤ T (f + j) - 96 ∧ T (f + j) - 96 ≤ 26; omega)
    have hp := p27 m (by omega)
    have e27 : (27 : Int64).toInt = 27 := rfl
    have e96 : (96 : Int64).toInt = 96 := rfl
    have et : ((nI (T (f + m))).toInt64).toInt = T (f + m) := by rw [Int32.toInt_toInt64, nI_toInt (by omega)]
    have eS : wn (fun j => T (f + j) - 96) (m + 1) = 27 * wn (fun j => T (f + j) - 96) m + (T (f + m) - 96) := rfl
    rw [wv, if_pos (by omega), ih]
    apply Int64.toInt_inj.mp
    rw [Int64.toInt_sub, Int64.toInt_add, Int64.toInt_mul, nL_toInt (by omega), nL_toInt (by rw [eS]; omega), e27, e96, et, eS]
    generalize wn (fun j => T (f + j) - 96) m = X at hl ⊢
    rw [l_bmod (z := 27 * (X : Int)) (by omega) (by omega), l_bmod (z := 27 * (X : Int) + (T (f + m) : Int)) (by omega) (by omega), l_bmod (by omega) (by omega)]
    omega
theorem wv_m {T : Nat → Nat} {f m : Nat} (h : 12 < m) : wv T f m = -1 := by
  obtain ⟨k, rfl⟩ : ∃ k, m = k + 1 := ⟨m - 1, by omega⟩
  rw [wv, if_neg (by omega)]
/-- the words' numbers, in the order of the class's words -/
def wC : List Int64 := [232608281, 4558590, 335187792, 2035025871593, 1758676, 230521154, 8930039, 11720705, 4137607, 1896526, 8798, 2319102, 8996, 277652441, 390787]
theorem wC_n : ∀ i, i < 15 → wC.getD i 0 = nL (wn (fun j => stC i j - 96) (stN.getD i 0)) ∧ (∀ j, j < stN.getD i 0 → 97 ≤ stC i j ∧ stC i j ≤ 122) ∧ stN.getD i 0 ≤ 12 ∧ wC.getD i 0 ≠ -1 := by decide +kernel
theorem nL_inj {a b : Nat} (ha : a < 2 ^ 63) (hb : b < 2 ^ 63) (e : nL a = nL b) : a = b := by
  have := congrArg Int64.toInt e
  rw [nL_toInt ha, nL_toInt hb] at this
  omega
theorem tok_l {T : Nat → Nat} {z k : Nat} (t1 : tT T z k = 1) : ∀ j, j < tB T z k - tF T z k → 97 ≤ T (tF T z k + j) ∧ T (tF T z k + j) ≤ 122 := by
  have eB : tB T z k = rne isL T z (tF T z k) := by unfold tB; rw [if_neg (by omega), if_pos t1]
  intro j hj
  have := ((rne_run isL T z (tF T z k)).2.1 (tF T z k + j) (by omega) (by omega)).2
  simpa [isL] using this
theorem wis_v {T : Nat → Nat} {z k i : Nat} (hi : i < 15) (t1 : tT T z k = 1) : wv T (tF T z k) (tB T z k - tF T z k) = wC.getD i 0 ↔ wis T z k i = true := by
  obtain ⟨c1, c2, c3, c4⟩ := wC_n i hi
  have hl := tok_l t1
  constructor
  · intro e
    by_cases c : tB T z k - tF T z k ≤ 12
    · rw [wv_n _ c hl, c1] at e
      have b1 := wn_lt (a := fun j => T (tF T z k + j) - 96) (tB T z k - tF T z k) (fun j hj => by have := hl j hj; show 1 ≤ T (tF T z k + j) - 96 ∧ T (tF T z k + j) - 96 ≤ 26; omega)
      have b2 := wn_lt (a := fun j => stC i j - 96) (stN.getD i 0) (fun j hj => by have := c2 j hj; show 1 ≤ stC i j - 96 ∧ stC i j - 96 ≤ 26; omega)
      have p1 := p27 _ c
      have p2 := p27 _ c3
      have := nL_inj (by omega) (by omega) e
      obtain ⟨i1, i2⟩ := wn_inj _ _ (fun j hj => by have := hl j hj; show 1 ≤ T (tF T z k + j) - 96 ∧ T (tF T z k + j) - 96 ≤ 26; omega) (fun j hj => by have := c2 j hj; show 1 ≤ stC i j - 96 ∧ stC i j - 96 ≤ 26; omega) this
      refine decide_eq_true ⟨t1, i1, fun j hj => ?_⟩
      have q1 := i2 j (by omega)
      have q2 := hl j (by omega)
      have q3 := c2 j hj
      have q4 : T (tF T z k + j) - 96 = stC i j - 96 := q1
      omega
    · rw [wv_m (by omega)] at e
      exact absurd e.symm c4
  · intro w
    obtain ⟨-, w2, w3⟩ := of_decide_eq_true w
    rw [wv_n _ (by omega) hl, c1, w2]
    exact congrArg nL (wn_congr _ (fun j hj => by show T (tF T z k + j) - 96 = stC i j - 96; rw [w3 j hj]))
theorem mn_1 {t : Nat} (h : t ≤ 5) : nI (min 3 t) = 1 ↔ t = 1 := by
  rw [show (1 : Int32) = nI 1 from rfl, nI_inj2 (by omega) (by omega)]
  omega
theorem mn_2 {t : Nat} (h : t ≤ 5) : nI (min 3 t) = 2 ↔ t = 2 := by
  rw [show (2 : Int32) = nI 2 from rfl, nI_inj2 (by omega) (by omega)]
  omega
theorem mn_3 {t : Nat} (h : t ≤ 5) : nI (min 3 t) = 3 ↔ 3 ≤ t := by
  rw [show (3 : Int32) = nI 3 from rfl, nI_inj2 (by omega) (by omega)]
  omega
theorem mn_0 {t : Nat} (h : t ≤ 5) : nI (min 3 t) = 0 ↔ t = 0 := by
  rw [show (0 : Int32) = nI 0 from rfl, nI_inj2 (by omega) (by omega)]
  omega
theorem wis_1 {T : Nat → Nat} {z k i : Nat} (h : wis T z k i = true) : tT T z k = 1 := (of_decide_eq_true h).1
theorem sp_X5_isWord {g : GG} {h : Hp} {Post : Option Value → Hp → Prop} (hv : Inv h) {T : Nat → Nat} {z : Nat} (B : MT h T z) {k : Nat} (hk : k ≤ z) (Tk : TkM h T z k) {i : Nat} (hi : i < 15) (K : Post (some (.int (if wis T z k i = true then 1 else 0))) h) : Sp g mX5_isWord [.ref 49, .long (wC.getD i 0)] h Post := by
  show Go g mX5_isWord 0 [_, _, _] [] _ _ _
  have t5 := tT_le T z k
  by_cases t1 : tT T z k = 1
  · have ew := wis_v hi t1
    by_cases w : wis T z k i = true
    · refine ok_aload_n dX5_isWord_0 rfl rfl ?_
      refine ok_getI dX5_isWord_1 f_X5_178 (by first | exact is_lit hv (by decide) rfl | exact is_sq hv hq | exact is_row hv hq | exact is_pn hv hq (by assumption) | assumption) rfl ?_
      rw [Tk.1]
      refine ok_iconst (v := 1) dX5_isWord_4 (by decide) ?_
      refine ok_icmp_ne (tgt := 21) dX5_isWord_5 (by decide) (fun c9 => absurd c9 (fun c => c ((mn_1 t5).mpr t1))) (fun _ => ?_)
      refine ok_aload_n dX5_isWord_8 rfl rfl ?_
      refine ok_getL dX5_isWord_9 f_X5_181 (by first | exact is_lit hv (by decide) rfl | exact is_sq hv hq | exact is_row hv hq | exact is_pn hv hq (by assumption) | assumption) rfl ?_
      rw [Tk.2.2.2.1 t1]
      refine ok_lload_n dX5_isWord_12 rfl rfl ?_
      refine ok_lcmp dX5_isWord_13 ?_
      refine ok_if_ne (tgt := 21) dX5_isWord_14 (by decide) (fun c9 => absurd c9 (fun c => c ((lg_cmp_eq _ _).mpr (ew.mpr w)))) (fun _ => ?_)
      refine ok_iconst (v := 1) dX5_isWord_17 (by decide) ?_
      refine ok_goto (tgt := 22) dX5_isWord_18 (by decide) ?_
      refine ok_ireturn dX5_isWord_22 rfl rfl ?_
      rw [if_pos w] at K
      exact K
    · refine ok_aload_n dX5_isWord_0 rfl rfl ?_
      refine ok_getI dX5_isWord_1 f_X5_178 (by first | exact is_lit hv (by decide) rfl | exact is_sq hv hq | exact is_row hv hq | exact is_pn hv hq (by assumption) | assumption) rfl ?_
      rw [Tk.1]
      refine ok_iconst (v := 1) dX5_isWord_4 (by decide) ?_
      refine ok_icmp_ne (tgt := 21) dX5_isWord_5 (by decide) (fun c9 => absurd c9 (fun c => c ((mn_1 t5).mpr t1))) (fun _ => ?_)
      refine ok_aload_n dX5_isWord_8 rfl rfl ?_
      refine ok_getL dX5_isWord_9 f_X5_181 (by first | exact is_lit hv (by decide) rfl | exact is_sq hv hq | exact is_row hv hq | exact is_pn hv hq (by assumption) | assumption) rfl ?_
      rw [Tk.2.2.2.1 t1]
      refine ok_lload_n dX5_isWord_12 rfl rfl ?_
      refine ok_lcmp dX5_isWord_13 ?_
      refine ok_if_ne (tgt := 21) dX5_isWord_14 (by decide) (fun _ => ?_) (fun c9 => absurd c9 (fun c => w (ew.mp ((lg_cmp_eq _ _).mp c))))
      refine ok_iconst (v := 0) dX5_isWord_21 (by decide) ?_
      refine ok_ireturn dX5_isWord_22 rfl rfl ?_
      rw [if_neg w] at K
      exact K
  · refine ok_aload_n dX5_isWord_0 rfl rfl ?_
    refine ok_getI dX5_isWord_1 f_X5_178 (by first | exact is_lit hv (by decide) rfl | exact is_sq hv hq | exact is_row hv hq | exact is_pn hv hq (by assumption) | assumption) rfl ?_
    rw [Tk.1]
    refine ok_iconst (v := 1) dX5_isWord_4 (by decide) ?_
    refine ok_icmp_ne (tgt := 21) dX5_isWord_5 (by decide) (fun _ => ?_) (fun c9 => absurd c9 (fun c => t1 ((mn_1 t5).mp c)))
    refine ok_iconst (v := 0) dX5_isWord_21 (by decide) ?_
    refine ok_ireturn dX5_isWord_22 rfl rfl ?_
    rw [if_neg (fun w => t1 (wis_1 w))] at K
    exact K
theorem wy {b : Bool} (h : ¬ (if b = true then (1 : Int32) else 0) = 0) : b = true := by
  cases b
  · exact absurd rfl h
  · rfl
theorem wx {b : Bool} (h : (if b = true then (1 : Int32) else 0) = 0) : ¬ b = true := by
  cases b
  · exact Bool.false_ne_true
  · exact absurd h (by decide)
theorem sp_X5_kindHere {g : GG} {h : Hp} {Post : Option Value → Hp → Prop} (hv : Inv h) {T : Nat → Nat} {z : Nat} (B : MT h T z) {k : Nat} (hk : k ≤ z) (Tk : TkM h T z k) (K : Post (some (.int (kn T z k))) h) : Sp g mX5_kindHere [.ref 49] h Post := by
  show Go g mX5_kindHere 0 [_] [] _ _ _
  refine ok_aload_n dX5_kindHere_0 rfl rfl ?_
  refine ok_ldc2 dX5_kindHere_1 w_1115 ?_
  refine ok_callV (M' := mX5_isWord) (b' := (0, 0)) (As := [_]) (cx := 5) dX5_kindHere_4 iX5_isWord w_1116 (by decide) rfl (by first | exact is_lit hv (by decide) rfl | exact is_sq hv hq | exact is_row hv hq | exact is_pn hv hq (by assumption) | assumption) rfl (Nat.le_of_ble_eq_true rfl) ⟨Nat.le_of_ble_eq_true rfl, Nat.le_of_ble_eq_true rfl⟩ (Nat.le_of_ble_eq_true rfl) rfl rfl ?_
  refine sp_X5_isWord hv B hk Tk (i := 0) (by decide) ?_
  refine ok_if_eq (tgt := 14) dX5_kindHere_7 (by decide) (fun c_7 => ?_) (fun c_7 => ?_)
  · refine ok_aload_n dX5_kindHere_14 rfl rfl ?_
    refine ok_ldc2 dX5_kindHere_15 w_1120 ?_
    refine ok_callV (M' := mX5_isWord) (b' := (0, 0)) (As := [_]) (cx := 5) dX5_kindHere_18 iX5_isWord w_1116 (by decide) rfl (by first | exact is_lit hv (by decide) rfl | exact is_sq hv hq | exact is_row hv hq | exact is_pn hv hq (by assumption) | assumption) rfl (Nat.le_of_ble_eq_true rfl) ⟨Nat.le_of_ble_eq_true rfl, Nat.le_of_ble_eq_true rfl⟩ (Nat.le_of_ble_eq_true rfl) rfl rfl ?_
    refine sp_X5_isWord hv B hk Tk (i := 1) (by decide) ?_
    refine ok_if_eq (tgt := 28) dX5_kindHere_21 (by decide) (fun c_21 => ?_) (fun c_21 => ?_)
    · refine ok_aload_n dX5_kindHere_28 rfl rfl ?_
      refine ok_ldc2 dX5_kindHere_29 w_1121 ?_
      refine ok_callV (M' := mX5_isWord) (b' := (0, 0)) (As := [_]) (cx := 5) dX5_kindHere_32 iX5_isWord w_1116 (by decide) rfl (by first | exact is_lit hv (by decide) rfl | exact is_sq hv hq | exact is_row hv hq | exact is_pn hv hq (by assumption) | assumption) rfl (Nat.le_of_ble_eq_true rfl) ⟨Nat.le_of_ble_eq_true rfl, Nat.le_of_ble_eq_true rfl⟩ (Nat.le_of_ble_eq_true rfl) rfl rfl ?_
      refine sp_X5_isWord hv B hk Tk (i := 2) (by decide) ?_
      refine ok_if_eq (tgt := 42) dX5_kindHere_35 (by decide) (fun c_35 => ?_) (fun c_35 => ?_)
      · refine ok_aload_n dX5_kindHere_42 rfl rfl ?_
        refine ok_ldc2 dX5_kindHere_43 w_1122 ?_
        refine ok_callV (M' := mX5_isWord) (b' := (0, 0)) (As := [_]) (cx := 5) dX5_kindHere_46 iX5_isWord w_1116 (by decide) rfl (by first | exact is_lit hv (by decide) rfl | exact is_sq hv hq | exact is_row hv hq | exact is_pn hv hq (by assumption) | assumption) rfl (Nat.le_of_ble_eq_true rfl) ⟨Nat.le_of_ble_eq_true rfl, Nat.le_of_ble_eq_true rfl⟩ (Nat.le_of_ble_eq_true rfl) rfl rfl ?_
        refine sp_X5_isWord hv B hk Tk (i := 3) (by decide) ?_
        refine ok_if_eq (tgt := 56) dX5_kindHere_49 (by decide) (fun c_49 => ?_) (fun c_49 => ?_)
        · refine ok_aload_n dX5_kindHere_56 rfl rfl ?_
          refine ok_ldc2 dX5_kindHere_57 w_1123 ?_
          refine ok_callV (M' := mX5_isWord) (b' := (0, 0)) (As := [_]) (cx := 5) dX5_kindHere_60 iX5_isWord w_1116 (by decide) rfl (by first | exact is_lit hv (by decide) rfl | exact is_sq hv hq | exact is_row hv hq | exact is_pn hv hq (by assumption) | assumption) rfl (Nat.le_of_ble_eq_true rfl) ⟨Nat.le_of_ble_eq_true rfl, Nat.le_of_ble_eq_true rfl⟩ (Nat.le_of_ble_eq_true rfl) rfl rfl ?_
          refine sp_X5_isWord hv B hk Tk (i := 4) (by decide) ?_
          refine ok_if_eq (tgt := 70) dX5_kindHere_63 (by decide) (fun c_63 => ?_) (fun c_63 => ?_)
          · refine ok_aload_n dX5_kindHere_70 rfl rfl ?_
            refine ok_ldc2 dX5_kindHere_71 w_1124 ?_
            refine ok_callV (M' := mX5_isWord) (b' := (0, 0)) (As := [_]) (cx := 5) dX5_kindHere_74 iX5_isWord w_1116 (by decide) rfl (by first | exact is_lit hv (by decide) rfl | exact is_sq hv hq | exact is_row hv hq | exact is_pn hv hq (by assumption) | assumption) rfl (Nat.le_of_ble_eq_true rfl) ⟨Nat.le_of_ble_eq_true rfl, Nat.le_of_ble_eq_true rfl⟩ (Nat.le_of_ble_eq_true rfl) rfl rfl ?_
            refine sp_X5_isWord hv B hk Tk (i := 5) (by decide) ?_
            refine ok_if_eq (tgt := 84) dX5_kindHere_77 (by decide) (fun c_77 => ?_) (fun c_77 => ?_)
            · refine ok_iconst (v := -1) dX5_kindHere_84 (by decide) ?_
              refine ok_ireturn dX5_kindHere_85 rfl rfl ?_
              simp only [kn, knf] at K
              first
                | (rw [if_pos (wy c_7)] at K; exact K)
                | (rw [if_neg (wx c_7), if_pos (wy c_21)] at K; exact K)
                | (rw [if_neg (wx c_7), if_neg (wx c_21), if_pos (wy c_35)] at K; exact K)
                | (rw [if_neg (wx c_7), if_neg (wx c_21), if_neg (wx c_35), if_pos (wy c_49)] at K; exact K)
                | (rw [if_neg (wx c_7), if_neg (wx c_21), if_neg (wx c_35), if_neg (wx c_49), if_pos (wy c_63)] at K; exact K)
                | (rw [if_neg (wx c_7), if_neg (wx c_21), if_neg (wx c_35), if_neg (wx c_49), if_neg (wx c_63), if_pos (wy c_77)] at K; exact K)
                | (rw [if_neg (wx c_7), if_neg (wx c_21), if_neg (wx c_35), if_neg (wx c_49), if_neg (wx c_63), if_neg (wx c_77)] at K; exact K)
            · refine ok_iconst (v := 5) dX5_kindHere_80 (by decide) ?_
              refine ok_goto (tgt := 85) dX5_kindHere_81 (by decide) ?_
              refine ok_ireturn dX5_kindHere_85 rfl rfl ?_
              simp only [kn, knf] at K
              first
                | (rw [if_pos (wy c_7)] at K; exact K)
                | (rw [if_neg (wx c_7), if_pos (wy c_21)] at K; exact K)
                | (rw [if_neg (wx c_7), if_neg (wx c_21), if_pos (wy c_35)] at K; exact K)
                | (rw [if_neg (wx c_7), if_neg (wx c_21), if_neg (wx c_35), if_pos (wy c_49)] at K; exact K)
                | (rw [if_neg (wx c_7), if_neg (wx c_21), if_neg (wx c_35), if_neg (wx c_49), if_pos (wy c_63)] at K; exact K)
                | (rw [if_neg (wx c_7), if_neg (wx c_21), if_neg (wx c_35), if_neg (wx c_49), if_neg (wx c_63), if_pos (wy c_77)] at K; exact K)
                | (rw [if_neg (wx c_7), if_neg (wx c_21), if_neg (wx c_35), if_neg (wx c_49), if_neg (wx c_63), if_neg (wx c_77)] at K; exact K)
          · refine ok_iconst (v := 4) dX5_kindHere_66 (by decide) ?_
            refine ok_goto (tgt := 85) dX5_kindHere_67 (by decide) ?_
            refine ok_ireturn dX5_kindHere_85 rfl rfl ?_
            simp only [kn, knf] at K
            first
              | (rw [if_pos (wy c_7)] at K; exact K)
              | (rw [if_neg (wx c_7), if_pos (wy c_21)] at K; exact K)
              | (rw [if_neg (wx c_7), if_neg (wx c_21), if_pos (wy c_35)] at K; exact K)
              | (rw [if_neg (wx c_7), if_neg (wx c_21), if_neg (wx c_35), if_pos (wy c_49)] at K; exact K)
              | (rw [if_neg (wx c_7), if_neg (wx c_21), if_neg (wx c_35), if_neg (wx c_49), if_pos (wy c_63)] at K; exact K)
              | (rw [if_neg (wx c_7), if_neg (wx c_21), if_neg (wx c_35), if_neg (wx c_49), if_neg (wx c_63), if_pos (wy c_77)] at K; exact K)
              | (rw [if_neg (wx c_7), if_neg (wx c_21), if_neg (wx c_35), if_neg (wx c_49), if_neg (wx c_63), if_neg (wx c_77)] at K; exact K)
        · refine ok_iconst (v := 3) dX5_kindHere_52 (by decide) ?_
          refine ok_goto (tgt := 85) dX5_kindHere_53 (by decide) ?_
          refine ok_ireturn dX5_kindHere_85 rfl rfl ?_
          simp only [kn, knf] at K
          first
            | (rw [if_pos (wy c_7)] at K; exact K)
            | (rw [if_neg (wx c_7), if_pos (wy c_21)] at K; exact K)
            | (rw [if_neg (wx c_7), if_neg (wx c_21), if_pos (wy c_35)] at K; exact K)
            | (rw [if_neg (wx c_7), if_neg (wx c_21), if_neg (wx c_35), if_pos (wy c_49)] at K; exact K)
            | (rw [if_neg (wx c_7), if_neg (wx c_21), if_neg (wx c_35), if_neg (wx c_49), if_pos (wy c_63)] at K; exact K)
            | (rw [if_neg (wx c_7), if_neg (wx c_21), if_neg (wx c_35), if_neg (wx c_49), if_neg (wx c_63), if_pos (wy c_77)] at K; exact K)
            | (rw [if_neg (wx c_7), if_neg (wx c_21), if_neg (wx c_35), if_neg (wx c_49), if_neg (wx c_63), if_neg (wx c_77)] at K; exact K)
      · refine ok_iconst (v := 2) dX5_kindHere_38 (by decide) ?_
        refine ok_goto (tgt := 85) dX5_kindHere_39 (by decide) ?_
        refine ok_ireturn dX5_kindHere_85 rfl rfl ?_
        simp only [kn, knf] at K
        first
          | (rw [if_pos (wy c_7)] at K; exact K)
          | (rw [if_neg (wx c_7), if_pos (wy c_21)] at K; exact K)
          | (rw [if_neg (wx c_7), if_neg (wx c_21), if_pos (wy c_35)] at K; exact K)
          | (rw [if_neg (wx c_7), if_neg (wx c_21), if_neg (wx c_35), if_pos (wy c_49)] at K; exact K)
          | (rw [if_neg (wx c_7), if_neg (wx c_21), if_neg (wx c_35), if_neg (wx c_49), if_pos (wy c_63)] at K; exact K)
          | (rw [if_neg (wx c_7), if_neg (wx c_21), if_neg (wx c_35), if_neg (wx c_49), if_neg (wx c_63), if_pos (wy c_77)] at K; exact K)
          | (rw [if_neg (wx c_7), if_neg (wx c_21), if_neg (wx c_35), if_neg (wx c_49), if_neg (wx c_63), if_neg (wx c_77)] at K; exact K)
    · refine ok_iconst (v := 1) dX5_kindHere_24 (by decide) ?_
      refine ok_goto (tgt := 85) dX5_kindHere_25 (by decide) ?_
      refine ok_ireturn dX5_kindHere_85 rfl rfl ?_
      simp only [kn, knf] at K
      first
        | (rw [if_pos (wy c_7)] at K; exact K)
        | (rw [if_neg (wx c_7), if_pos (wy c_21)] at K; exact K)
        | (rw [if_neg (wx c_7), if_neg (wx c_21), if_pos (wy c_35)] at K; exact K)
        | (rw [if_neg (wx c_7), if_neg (wx c_21), if_neg (wx c_35), if_pos (wy c_49)] at K; exact K)
        | (rw [if_neg (wx c_7), if_neg (wx c_21), if_neg (wx c_35), if_neg (wx c_49), if_pos (wy c_63)] at K; exact K)
        | (rw [if_neg (wx c_7), if_neg (wx c_21), if_neg (wx c_35), if_neg (wx c_49), if_neg (wx c_63), if_pos (wy c_77)] at K; exact K)
        | (rw [if_neg (wx c_7), if_neg (wx c_21), if_neg (wx c_35), if_neg (wx c_49), if_neg (wx c_63), if_neg (wx c_77)] at K; exact K)
  · refine ok_iconst (v := 0) dX5_kindHere_10 (by decide) ?_
    refine ok_goto (tgt := 85) dX5_kindHere_11 (by decide) ?_
    refine ok_ireturn dX5_kindHere_85 rfl rfl ?_
    simp only [kn, knf] at K
    first
      | (rw [if_pos (wy c_7)] at K; exact K)
      | (rw [if_neg (wx c_7), if_pos (wy c_21)] at K; exact K)
      | (rw [if_neg (wx c_7), if_neg (wx c_21), if_pos (wy c_35)] at K; exact K)
      | (rw [if_neg (wx c_7), if_neg (wx c_21), if_neg (wx c_35), if_pos (wy c_49)] at K; exact K)
      | (rw [if_neg (wx c_7), if_neg (wx c_21), if_neg (wx c_35), if_neg (wx c_49), if_pos (wy c_63)] at K; exact K)
      | (rw [if_neg (wx c_7), if_neg (wx c_21), if_neg (wx c_35), if_neg (wx c_49), if_neg (wx c_63), if_pos (wy c_77)] at K; exact K)
      | (rw [if_neg (wx c_7), if_neg (wx c_21), if_neg (wx c_35), if_neg (wx c_49), if_neg (wx c_63), if_neg (wx c_77)] at K; exact K)
