/-! ===== the class: findings, bits, what rests ===== -/
/-- one more finding of a sort -/
def hfi (h : Hp) (k : Nat) : Hp := uI h 1 k (hI h 1 k + 1)
theorem sp_X4_finding {g : GG} {h : Hp} {Post : Option Value → Hp → Prop} (hv : Inv h) {k : Nat} (hk : k < 7) {c : Int32} (hc : (-1000000001 : Int32) - c = nI k) (K : Post (some (.int c)) (hfi h k)) : Sp g mX4_finding [.ref 0, .int c] h Post := by
  show Go g mX4_finding 0 [_, _, _] [] _ _ _
  refine ok_ldc dX4_finding_0 w_253 ?_
  refine ok_iload_n dX4_finding_2 rfl rfl ?_
  refine ok_isub dX4_finding_3 ?_
  rw [hc]
  refine ok_istore_n (lo' := [_, _, _]) dX4_finding_4 rfl (Nat.le_of_ble_eq_true rfl) rfl rfl ?_
  refine ok_iload_n dX4_finding_5 rfl rfl ?_
  refine ok_if_lt (tgt := 25) dX4_finding_6 (by decide) (fun c9 => absurd c9 (nI_pos (by omega))) (fun _ => ?_)
  refine ok_iload_n dX4_finding_9 rfl rfl ?_
  refine ok_bipush (v := 7) dX4_finding_10 (by decide) ?_
  refine ok_icmp_ge (tgt := 25) dX4_finding_12 (by decide) (fun c9 => absurd c9 (nI_ge hk (by decide))) (fun _ => ?_)
  refine ok_aload_n dX4_finding_15 rfl rfl ?_
  refine ok_getR dX4_finding_16 f_X4_9 (by first | exact is_lit hv (by decide) rfl | exact is_sq hv hq | exact is_row hv hq | exact is_pn hv hq (by assumption) | assumption) rfl (by first | exact rf hv rfl | exact rf_row hv hq | assumption) ?_
  refine ok_iload_n dX4_finding_19 rfl rfl ?_
  refine ok_dup2 dX4_finding_20 rfl rfl ?_
  refine ok_iaload dX4_finding_21 (by first | exact is_lit hv (by decide) rfl | exact is_sq hv hq | exact is_row hv hq | exact is_pn hv hq (by assumption) | assumption) (vp_in_nI hk (by decide)) ?_
  refine ok_iconst (v := 1) dX4_finding_22 (by decide) ?_
  refine ok_iadd dX4_finding_23 ?_
  refine ok_iastore dX4_finding_24 (by first | exact is_lit hv (by decide) rfl | exact is_sq hv hq | exact is_row hv hq | exact is_pn hv hq (by assumption) | assumption) (vp_in_nI hk (by decide)) ?_
  rw [nI_clamp (by omega)]
  refine ok_iload_n dX4_finding_25 rfl rfl ?_
  refine ok_ireturn dX4_finding_26 rfl rfl ?_
  first | exact K | (simp only [↓reduceIte] at K; exact K)
theorem sw3 (x : Int32) : x = 1 ∨ x = 2 ∨ x = 3 ∨ (x.toInt < 1 ∨ 3 < x.toInt) := by
  rcases sw_of x 4 (by decide) with ⟨k, hk, e⟩ | e
  · rcases (show k = 0 ∨ k = 1 ∨ k = 2 ∨ k = 3 by omega) with rfl | rfl | rfl | rfl
    · rw [e]; exact Or.inr (Or.inr (Or.inr (Or.inl (by decide))))
    · exact Or.inl e
    · exact Or.inr (Or.inl e)
    · exact Or.inr (Or.inr (Or.inl e))
  · exact Or.inr (Or.inr (Or.inr (by omega)))
/-- what may be set -/
def w_may (what v : Int32) : Int32 := if what = 1 then (if v < 0 then 0 else if 999 < v then 0 else 1) else if what = 2 ∨ what = 3 then (if v < 0 then 0 else if 99 < v then 0 else 1) else 0
theorem may_b (what v : Int32) : B01 (w_may what v) := by
  unfold w_may B01
  split
  · split
    · exact Or.inl rfl
    · split
      · exact Or.inl rfl
      · exact Or.inr rfl
  · split
    · split
      · exact Or.inl rfl
      · split
        · exact Or.inl rfl
        · exact Or.inr rfl
    · exact Or.inl rfl
theorem sp_X4_isSettable {g : GG} {h : Hp} {Post : Option Value → Hp → Prop} (what v : Int32) (K : Post (some (.int (w_may what v))) h) : Sp g mX4_isSettable [.int what, .int v] h Post := by
  show Go g mX4_isSettable 0 [_, _] [] _ _ _
  have hb := nar_b (may_b what v)
  refine ok_iload_n dX4_isSettable_0 rfl rfl ?_
  rcases sw3 what with ew | ew | ew | ew
  · subst ew
    refine ok_tableIn (tgt := 28) (off := 27) dX4_isSettable_1 (by decide) (by decide) (by decide) (by decide) ?_
    refine ok_iload_n dX4_isSettable_28 rfl rfl ?_
    refine ok_iconst (v := 0) dX4_isSettable_29 (by decide) ?_
    refine ok_sipush (v := 999) dX4_isSettable_30 (by decide) ?_
    refine ok_callS (M' := mX4_isWithin) (b' := (0, 0)) (As := [_, _, _]) dX4_isSettable_33 iX4_isWithin w_302 rfl (Nat.le_of_ble_eq_true rfl) ⟨Nat.le_of_ble_eq_true rfl, Nat.le_of_ble_eq_true rfl⟩ (Nat.le_of_ble_eq_true rfl) rfl rfl ?_
    refine sp_X4_isWithin _ _ _ ?_
    refine ok_ireturn dX4_isSettable_36 rfl hb ?_
    exact K
  · subst ew
    refine ok_tableIn (tgt := 37) (off := 36) dX4_isSettable_1 (by decide) (by decide) (by decide) (by decide) ?_
    refine ok_iload_n dX4_isSettable_37 rfl rfl ?_
    refine ok_iconst (v := 0) dX4_isSettable_38 (by decide) ?_
    refine ok_bipush (v := 99) dX4_isSettable_39 (by decide) ?_
    refine ok_callS (M' := mX4_isWithin) (b' := (0, 0)) (As := [_, _, _]) dX4_isSettable_41 iX4_isWithin w_302 rfl (Nat.le_of_ble_eq_true rfl) ⟨Nat.le_of_ble_eq_true rfl, Nat.le_of_ble_eq_true rfl⟩ (Nat.le_of_ble_eq_true rfl) rfl rfl ?_
    refine sp_X4_isWithin _ _ _ ?_
    refine ok_ireturn dX4_isSettable_44 rfl hb ?_
    exact K
  · subst ew
    refine ok_tableIn (tgt := 45) (off := 44) dX4_isSettable_1 (by decide) (by decide) (by decide) (by decide) ?_
    refine ok_iload_n dX4_isSettable_45 rfl rfl ?_
    refine ok_iconst (v := 0) dX4_isSettable_46 (by decide) ?_
    refine ok_bipush (v := 99) dX4_isSettable_47 (by decide) ?_
    refine ok_callS (M' := mX4_isWithin) (b' := (0, 0)) (As := [_, _, _]) dX4_isSettable_49 iX4_isWithin w_302 rfl (Nat.le_of_ble_eq_true rfl) ⟨Nat.le_of_ble_eq_true rfl, Nat.le_of_ble_eq_true rfl⟩ (Nat.le_of_ble_eq_true rfl) rfl rfl ?_
    refine sp_X4_isWithin _ _ _ ?_
    refine ok_ireturn dX4_isSettable_52 rfl hb ?_
    exact K
  · refine ok_tableOut (tgt := 53) dX4_isSettable_1 ew (by decide) ?_
    refine ok_iconst (v := 0) dX4_isSettable_53 (by decide) ?_
    refine ok_ireturn dX4_isSettable_54 rfl rfl ?_
    have e : w_may what v = 0 := by
      unfold w_may
      rw [if_neg (fun z => by rw [z] at ew; exact absurd ew (by decide)), if_neg (fun z => by rcases z with z | z <;> (rw [z] at ew; exact absurd ew (by decide)))]
    rw [e] at K
    exact K
def popc (b : Nat) : Nat := b % 2 + b / 2 % 2 + b / 4 % 2 + b / 8 % 2 + b / 16 % 2 + b / 32 % 2 + b / 64 % 2 + b / 128 % 2 + b / 256 % 2 + b / 512 % 2
def bcE (x : Int32) : Int32 :=
  let a := x - ((x.toUInt32 >>> ((1 : Int32).toUInt32 &&& Int32.toUInt32 31)).toInt32 &&& 1431655765)
  let a := (a &&& 858993459) + ((a.toUInt32 >>> ((2 : Int32).toUInt32 &&& Int32.toUInt32 31)).toInt32 &&& 858993459)
  let a := a + (a.toUInt32 >>> ((4 : Int32).toUInt32 &&& Int32.toUInt32 31)).toInt32 &&& 252645135
  let a := a + (a.toUInt32 >>> ((8 : Int32).toUInt32 &&& Int32.toUInt32 31)).toInt32
  let a := a + (a.toUInt32 >>> ((16 : Int32).toUInt32 &&& Int32.toUInt32 31)).toInt32
  a &&& 63
theorem bc_all : ∀ b, b < 1024 → bcE (nI b) = nI (popc b) := by decide +kernel
theorem sp_J6_bitCount_0f7a4 {g : GG} {h : Hp} {Post : Option Value → Hp → Prop} {b : Nat} (hb : b < 1024) (K : Post (some (.int (nI (popc b)))) h) : Sp g mJ6_bitCount_0f7a4 [.int (nI b)] h Post := by
  show Go g mJ6_bitCount_0f7a4 0 [_] [] _ _ _
  refine ok_iload_n dJ6_bitCount_0f7a4_0 rfl rfl ?_
  refine ok_iload_n dJ6_bitCount_0f7a4_1 rfl rfl ?_
  refine ok_iconst (v := 1) dJ6_bitCount_0f7a4_2 (by decide) ?_
  refine ok_iushr dJ6_bitCount_0f7a4_3 ?_
  refine ok_ldcw dJ6_bitCount_0f7a4_4 w_528 ?_
  refine ok_iand dJ6_bitCount_0f7a4_7 ?_
  refine ok_isub dJ6_bitCount_0f7a4_8 ?_
  refine ok_istore_n (lo' := [_]) dJ6_bitCount_0f7a4_9 rfl (Nat.le_of_ble_eq_true rfl) rfl rfl ?_
  refine ok_iload_n dJ6_bitCount_0f7a4_10 rfl rfl ?_
  refine ok_ldcw dJ6_bitCount_0f7a4_11 w_529 ?_
  refine ok_iand dJ6_bitCount_0f7a4_14 ?_
  refine ok_iload_n dJ6_bitCount_0f7a4_15 rfl rfl ?_
  refine ok_iconst (v := 2) dJ6_bitCount_0f7a4_16 (by decide) ?_
  refine ok_iushr dJ6_bitCount_0f7a4_17 ?_
  refine ok_ldcw dJ6_bitCount_0f7a4_18 w_529 ?_
  refine ok_iand dJ6_bitCount_0f7a4_21 ?_
  refine ok_iadd dJ6_bitCount_0f7a4_22 ?_
  refine ok_istore_n (lo' := [_]) dJ6_bitCount_0f7a4_23 rfl (Nat.le_of_ble_eq_true rfl) rfl rfl ?_
  refine ok_iload_n dJ6_bitCount_0f7a4_24 rfl rfl ?_
  refine ok_iload_n dJ6_bitCount_0f7a4_25 rfl rfl ?_
  refine ok_iconst (v := 4) dJ6_bitCount_0f7a4_26 (by decide) ?_
  refine ok_iushr dJ6_bitCount_0f7a4_27 ?_
  refine ok_iadd dJ6_bitCount_0f7a4_28 ?_
  refine ok_ldcw dJ6_bitCount_0f7a4_29 w_530 ?_
  refine ok_iand dJ6_bitCount_0f7a4_32 ?_
  refine ok_istore_n (lo' := [_]) dJ6_bitCount_0f7a4_33 rfl (Nat.le_of_ble_eq_true rfl) rfl rfl ?_
  refine ok_iload_n dJ6_bitCount_0f7a4_34 rfl rfl ?_
  refine ok_iload_n dJ6_bitCount_0f7a4_35 rfl rfl ?_
  refine ok_bipush (v := 8) dJ6_bitCount_0f7a4_36 (by decide) ?_
  refine ok_iushr dJ6_bitCount_0f7a4_38 ?_
  refine ok_iadd dJ6_bitCount_0f7a4_39 ?_
  refine ok_istore_n (lo' := [_]) dJ6_bitCount_0f7a4_40 rfl (Nat.le_of_ble_eq_true rfl) rfl rfl ?_
  refine ok_iload_n dJ6_bitCount_0f7a4_41 rfl rfl ?_
  refine ok_iload_n dJ6_bitCount_0f7a4_42 rfl rfl ?_
  refine ok_bipush (v := 16) dJ6_bitCount_0f7a4_43 (by decide) ?_
  refine ok_iushr dJ6_bitCount_0f7a4_45 ?_
  refine ok_iadd dJ6_bitCount_0f7a4_46 ?_
  refine ok_istore_n (lo' := [_]) dJ6_bitCount_0f7a4_47 rfl (Nat.le_of_ble_eq_true rfl) rfl rfl ?_
  refine ok_iload_n dJ6_bitCount_0f7a4_48 rfl rfl ?_
  refine ok_bipush (v := 63) dJ6_bitCount_0f7a4_49 (by decide) ?_
  refine ok_iand dJ6_bitCount_0f7a4_51 ?_
  refine ok_ireturn dJ6_bitCount_0f7a4_52 rfl rfl ?_
  rw [← bc_all b hb] at K
  exact K
def bt (b p : Nat) : Nat := b / 2 ^ p % 2
theorem sh10 : ∀ p, p < 10 → ((nI p &&& 31).toBitVec.smod 32).toNat = p := by decide
theorem bt_of {b p : Nat} (hb : b < 1024) (hp : p < 10) : (nI b >>> (nI p &&& 31)) &&& 1 = nI (bt b p) := by
  rw [pk_shrN (by omega) _ p (sh10 p hp)]
  exact pk_andN (Nat.lt_of_le_of_lt (Nat.div_le_self _ _) (by omega)) 1 rfl
theorem bt_2 (b p : Nat) : bt b p = 0 ∨ bt b p = 1 := by unfold bt; omega
/-- what one gains where it runs m minutes, throwing o -/
def gI (m v o : Int32) (p : Nat) : Int32 := (if m ≤ nI p then 0 else v) - o
theorem gI_0 {m v o : Int32} {p : Nat} (c : m ≤ nI p) : (if (0 : Int32) = 0 then 0 else v) - o = gI m v o p := by rw [gI, if_pos c, if_pos rfl]
theorem gI_1 {m v o : Int32} {p : Nat} (c : ¬ m ≤ nI p) : (if (1 : Int32) = 0 then 0 else v) - o = gI m v o p := by rw [gI, if_neg c, if_neg (by decide)]
/-- one has no better: by the class -/
def w_cr (r : Nat → Int32) (b p : Nat) : Prop := nI (bt b p) ≤ ro r p 1 ∧ (ro r p 1 < 1 - nI (bt b p) ∨ gI (r 1 + nI (popc b) - nI (bt b p) + (1 - nI (bt b p))) (ro r p 2) (1 - nI (bt b p)) p ≤ gI (r 1 + nI (popc b)) (ro r p 2) (nI (bt b p)) p)
noncomputable def w_rst (r : Nat → Int32) (n b : Nat) : Int32 := by classical exact if ∀ p, p < n → w_cr r b p then 1 else 0
theorem rst_1 {r : Nat → Int32} {n b : Nat} (h : ∀ p, p < n → w_cr r b p) : w_rst r n b = 1 := by unfold w_rst; exact if_pos h
theorem rst_0 {r : Nat → Int32} {n b p : Nat} (hp : p < n) (h : ¬ w_cr r b p) : w_rst r n b = 0 := by unfold w_rst; exact if_neg (fun z => h (z p hp))
theorem lp_X4_isAtRest_15 {g : GG} {h : Hp} {Post : Option Value → Hp → Prop} {n : Nat} {r : Nat → Int32} (S : Hs h n r) {b : Nat} (hb : b < 1024) (K : Post (some (.int (w_rst r n b))) h) : ∀ (k i : Nat) (x4 x5 x6 x7 x8 : Option Value), i + k = n → (∀ p, p < i → w_cr r b p) → Go g mX4_isAtRest 15 [some (.ref 0), some (.int (nI b)), some (.int (r 1 + nI (popc b))), some (.int (nI i)), x4, x5, x6, x7, x8] [] h (0, 0) Post := by
  intro k
  induction k with
  | zero =>
    intro i x4 x5 x6 x7 x8 hik ha
    obtain rfl : i = n := by omega
    have hv := S.1
    have hn := S.2.2.1
    have h6 := S.2.1.2.2.1
    refine ok_iload_n dX4_isAtRest_15 rfl rfl ?_
    refine ok_aload_n dX4_isAtRest_16 rfl rfl ?_
    refine ok_getR dX4_isAtRest_17 f_X4_16 (by first | exact is_lit hv (by decide) rfl | exact is_sq hv hq | exact is_row hv hq | exact is_pn hv hq (by assumption) | assumption) rfl (by first | exact rf hv rfl | exact rf_row hv hq | assumption) ?_
    refine ok_getI dX4_isAtRest_20 f_X4_53 (by first | exact is_lit hv (by decide) rfl | exact is_sq hv hq | exact is_row hv hq | exact is_pn hv hq (by assumption) | assumption) rfl ?_
    rw [h6]
    refine ok_icmp_ge (tgt := 131) dX4_isAtRest_23 (by decide) (fun _ => ?_) (fun c9 => absurd (nI_le (Nat.le_refl _) (by omega)) c9)
    refine ok_iconst (v := 1) dX4_isAtRest_131 (by decide) ?_
    refine ok_ireturn dX4_isAtRest_132 rfl rfl ?_
    rw [rst_1 ha] at K
    exact K
  | succ k ih =>
    intro i x4 x5 x6 x7 x8 hik ha
    have hi : i < n := by omega
    have hv := S.1
    have hn := S.2.2.1
    have h6 := S.2.1.2.2.1
    have ep : ∀ f, f < 7 → hI h (pn h 2 i) f = ro r i f := fun f hf => S.2.1.2.2.2.2 i f hi hf
    have hi10 : i < 10 := by omega
    have hq := s2
    refine ok_iload_n dX4_isAtRest_15 rfl rfl ?_
    refine ok_aload_n dX4_isAtRest_16 rfl rfl ?_
    refine ok_getR dX4_isAtRest_17 f_X4_16 (by first | exact is_lit hv (by decide) rfl | exact is_sq hv hq | exact is_row hv hq | exact is_pn hv hq (by assumption) | assumption) rfl (by first | exact rf hv rfl | exact rf_row hv hq | assumption) ?_
    refine ok_getI dX4_isAtRest_20 f_X4_53 (by first | exact is_lit hv (by decide) rfl | exact is_sq hv hq | exact is_row hv hq | exact is_pn hv hq (by assumption) | assumption) rfl ?_
    rw [h6]
    refine ok_icmp_ge (tgt := 131) dX4_isAtRest_23 (by decide) (fun c9 => absurd c9 (nI_ge hi (by omega))) (fun _ => ?_)
    refine ok_aload_n dX4_isAtRest_26 rfl rfl ?_
    refine ok_getR dX4_isAtRest_27 f_X4_16 (by first | exact is_lit hv (by decide) rfl | exact is_sq hv hq | exact is_row hv hq | exact is_pn hv hq (by assumption) | assumption) rfl (by first | exact rf hv rfl | exact rf_row hv hq | assumption) ?_
    refine ok_getR dX4_isAtRest_30 f_X4_64 (is_sq hv hq) rfl (rf_row hv hq) ?_
    refine ok_iload_n dX4_isAtRest_33 rfl rfl ?_
    refine ok_aaloadP dX4_isAtRest_34 (by first | exact is_lit hv (by decide) rfl | exact is_sq hv hq | exact is_row hv hq | exact is_pn hv hq (by assumption) | assumption) (by first | decide | exact vp_in_nI (by assumption) (by decide) | exact vp_in_nI (by omega) (by decide) | assumption) (by first | exact rf_nI hv hq (by assumption) | assumption) ?_
    refine ok_astore (lo' := [_, _, _, _, _, _, _, _, _]) dX4_isAtRest_35 (Nat.le_of_ble_eq_true rfl) rfl rfl ?_
    refine ok_iload_n dX4_isAtRest_37 rfl rfl ?_
    refine ok_iload_n dX4_isAtRest_38 rfl rfl ?_
    refine ok_ishr dX4_isAtRest_39 ?_
    refine ok_iconst (v := 1) dX4_isAtRest_40 (by decide) ?_
    refine ok_iand dX4_isAtRest_41 ?_
    rw [bt_of hb hi10]
    refine ok_istore (lo' := [_, _, _, _, _, _, _, _, _]) dX4_isAtRest_42 (Nat.le_of_ble_eq_true rfl) rfl rfl ?_
    refine ok_iconst (v := 1) dX4_isAtRest_44 (by decide) ?_
    refine ok_iload dX4_isAtRest_45 rfl ?_
    refine ok_isub dX4_isAtRest_47 ?_
    refine ok_istore (lo' := [_, _, _, _, _, _, _, _, _]) dX4_isAtRest_48 (Nat.le_of_ble_eq_true rfl) rfl rfl ?_
    refine ok_aload dX4_isAtRest_50 rfl ?_
    refine ok_getI dX4_isAtRest_52 f_X4_73 (by first | exact is_lit hv (by decide) rfl | exact is_sq hv hq | exact is_row hv hq | exact is_pn hv hq (by assumption) | assumption) rfl ?_
    rw [ep 1 (by decide)]
    refine ok_iload dX4_isAtRest_55 rfl ?_
    refine ok_icmp_ge (tgt := 62) dX4_isAtRest_57 (by decide) (fun c_57 => ?_) (fun c_57 => ?_)
    · refine ok_aload dX4_isAtRest_62 rfl ?_
      refine ok_iload_n dX4_isAtRest_64 rfl rfl ?_
      refine ok_iload_n dX4_isAtRest_65 rfl rfl ?_
      refine ok_icmp_ge (tgt := 73) dX4_isAtRest_66 (by decide) (fun c_66 => ?_) (fun c_66 => ?_)
      · refine ok_iconst (v := 0) dX4_isAtRest_73 (by decide) ?_
        refine ok_iload dX4_isAtRest_74 rfl ?_
        refine ok_callV (M' := mX0_gainBy) (b' := (0, 0)) (As := [_, _]) (cx := 0) dX4_isAtRest_76 iX0_gainBy w_531 (by decide) rfl (by first | exact is_lit hv (by decide) rfl | exact is_sq hv hq | exact is_row hv hq | exact is_pn hv hq (by assumption) | assumption) rfl (Nat.le_of_ble_eq_true rfl) ⟨Nat.le_of_ble_eq_true rfl, Nat.le_of_ble_eq_true rfl⟩ (Nat.le_of_ble_eq_true rfl) rfl rfl ?_
        refine sp_X0_gainBy (is_pn hv s2 hi10) _ _ ?_
        rw [ep 2 (by decide)]
        (first | rw [gI_0 c_66] | rw [gI_1 c_66])
        refine ok_istore (lo' := [_, _, _, _, _, _, _, _, _]) dX4_isAtRest_79 (Nat.le_of_ble_eq_true rfl) rfl rfl ?_
        refine ok_aload dX4_isAtRest_81 rfl ?_
        refine ok_iload_n dX4_isAtRest_83 rfl rfl ?_
        refine ok_iload_n dX4_isAtRest_84 rfl rfl ?_
        refine ok_iload dX4_isAtRest_85 rfl ?_
        refine ok_isub dX4_isAtRest_87 ?_
        refine ok_iload dX4_isAtRest_88 rfl ?_
        refine ok_iadd dX4_isAtRest_90 ?_
        refine ok_icmp_ge (tgt := 98) dX4_isAtRest_91 (by decide) (fun c_91 => ?_) (fun c_91 => ?_)
        · refine ok_iconst (v := 0) dX4_isAtRest_98 (by decide) ?_
          refine ok_iload dX4_isAtRest_99 rfl ?_
          refine ok_callV (M' := mX0_gainBy) (b' := (0, 0)) (As := [_, _]) (cx := 0) dX4_isAtRest_101 iX0_gainBy w_531 (by decide) rfl (by first | exact is_lit hv (by decide) rfl | exact is_sq hv hq | exact is_row hv hq | exact is_pn hv hq (by assumption) | assumption) rfl (Nat.le_of_ble_eq_true rfl) ⟨Nat.le_of_ble_eq_true rfl, Nat.le_of_ble_eq_true rfl⟩ (Nat.le_of_ble_eq_true rfl) rfl rfl ?_
          refine sp_X0_gainBy (is_pn hv s2 hi10) _ _ ?_
          rw [ep 2 (by decide)]
          (first | rw [gI_0 c_91] | rw [gI_1 c_91])
          refine ok_istore (lo' := [_, _, _, _, _, _, _, _, _]) dX4_isAtRest_104 (Nat.le_of_ble_eq_true rfl) rfl rfl ?_
          refine ok_aload dX4_isAtRest_106 rfl ?_
          refine ok_getI dX4_isAtRest_108 f_X4_73 (by first | exact is_lit hv (by decide) rfl | exact is_sq hv hq | exact is_row hv hq | exact is_pn hv hq (by assumption) | assumption) rfl ?_
          rw [ep 1 (by decide)]
          refine ok_iload dX4_isAtRest_111 rfl ?_
          refine ok_icmp_lt (tgt := 125) dX4_isAtRest_113 (by decide) (fun c_113 => ?_) (fun c_113 => ?_)
          · refine ok_iinc (v := _ + 1) (lo' := [_, _, _, _, _, _, _, _, _]) dX4_isAtRest_125 rfl rfl (Nat.le_of_ble_eq_true rfl) rfl rfl ?_
            refine ok_goto (tgt := 15) dX4_isAtRest_128 (by decide) ?_
            rw [nI_1]
            refine ih (i + 1) _ _ _ _ _ (by omega) (fun p hp => ?_)
            rcases Nat.lt_or_ge p i with hlt | hge
            · exact ha p hlt
            · rw [show p = i by omega]
              first | exact ⟨c_57, Or.inl c_113⟩ | exact ⟨c_57, Or.inr c_120⟩
          · refine ok_iload dX4_isAtRest_116 rfl ?_
            refine ok_iload dX4_isAtRest_118 rfl ?_
            refine ok_icmp_le (tgt := 125) dX4_isAtRest_120 (by decide) (fun c_120 => ?_) (fun c_120 => ?_)
            · refine ok_iinc (v := _ + 1) (lo' := [_, _, _, _, _, _, _, _, _]) dX4_isAtRest_125 rfl rfl (Nat.le_of_ble_eq_true rfl) rfl rfl ?_
              refine ok_goto (tgt := 15) dX4_isAtRest_128 (by decide) ?_
              rw [nI_1]
              refine ih (i + 1) _ _ _ _ _ (by omega) (fun p hp => ?_)
              rcases Nat.lt_or_ge p i with hlt | hge
              · exact ha p hlt
              · rw [show p = i by omega]
                first | exact ⟨c_57, Or.inl c_113⟩ | exact ⟨c_57, Or.inr c_120⟩
            · refine ok_iconst (v := 0) dX4_isAtRest_123 (by decide) ?_
              refine ok_ireturn dX4_isAtRest_124 rfl rfl ?_
              rw [rst_0 hi (fun z => z.2.elim c_113 c_120)] at K
              exact K
        · refine ok_iconst (v := 1) dX4_isAtRest_94 (by decide) ?_
          refine ok_goto (tgt := 99) dX4_isAtRest_95 (by decide) ?_
          refine ok_iload dX4_isAtRest_99 rfl ?_
          refine ok_callV (M' := mX0_gainBy) (b' := (0, 0)) (As := [_, _]) (cx := 0) dX4_isAtRest_101 iX0_gainBy w_531 (by decide) rfl (by first | exact is_lit hv (by decide) rfl | exact is_sq hv hq | exact is_row hv hq | exact is_pn hv hq (by assumption) | assumption) rfl (Nat.le_of_ble_eq_true rfl) ⟨Nat.le_of_ble_eq_true rfl, Nat.le_of_ble_eq_true rfl⟩ (Nat.le_of_ble_eq_true rfl) rfl rfl ?_
          refine sp_X0_gainBy (is_pn hv s2 hi10) _ _ ?_
          rw [ep 2 (by decide)]
          (first | rw [gI_0 c_91] | rw [gI_1 c_91])
          refine ok_istore (lo' := [_, _, _, _, _, _, _, _, _]) dX4_isAtRest_104 (Nat.le_of_ble_eq_true rfl) rfl rfl ?_
          refine ok_aload dX4_isAtRest_106 rfl ?_
          refine ok_getI dX4_isAtRest_108 f_X4_73 (by first | exact is_lit hv (by decide) rfl | exact is_sq hv hq | exact is_row hv hq | exact is_pn hv hq (by assumption) | assumption) rfl ?_
          rw [ep 1 (by decide)]
          refine ok_iload dX4_isAtRest_111 rfl ?_
          refine ok_icmp_lt (tgt := 125) dX4_isAtRest_113 (by decide) (fun c_113 => ?_) (fun c_113 => ?_)
          · refine ok_iinc (v := _ + 1) (lo' := [_, _, _, _, _, _, _, _, _]) dX4_isAtRest_125 rfl rfl (Nat.le_of_ble_eq_true rfl) rfl rfl ?_
            refine ok_goto (tgt := 15) dX4_isAtRest_128 (by decide) ?_
            rw [nI_1]
            refine ih (i + 1) _ _ _ _ _ (by omega) (fun p hp => ?_)
            rcases Nat.lt_or_ge p i with hlt | hge
            · exact ha p hlt
            · rw [show p = i by omega]
              first | exact ⟨c_57, Or.inl c_113⟩ | exact ⟨c_57, Or.inr c_120⟩
          · refine ok_iload dX4_isAtRest_116 rfl ?_
            refine ok_iload dX4_isAtRest_118 rfl ?_
            refine ok_icmp_le (tgt := 125) dX4_isAtRest_120 (by decide) (fun c_120 => ?_) (fun c_120 => ?_)
            · refine ok_iinc (v := _ + 1) (lo' := [_, _, _, _, _, _, _, _, _]) dX4_isAtRest_125 rfl rfl (Nat.le_of_ble_eq_true rfl) rfl rfl ?_
              refine ok_goto (tgt := 15) dX4_isAtRest_128 (by decide) ?_
              rw [nI_1]
              refine ih (i + 1) _ _ _ _ _ (by omega) (fun p hp => ?_)
              rcases Nat.lt_or_ge p i with hlt | hge
              · exact ha p hlt
              · rw [show p = i by omega]
                first | exact ⟨c_57, Or.inl c_113⟩ | exact ⟨c_57, Or.inr c_120⟩
            · refine ok_iconst (v := 0) dX4_isAtRest_123 (by decide) ?_
              refine ok_ireturn dX4_isAtRest_124 rfl rfl ?_
              rw [rst_0 hi (fun z => z.2.elim c_113 c_120)] at K
              exact K
      · refine ok_iconst (v := 1) dX4_isAtRest_69 (by decide) ?_
        refine ok_goto (tgt := 74) dX4_isAtRest_70 (by decide) ?_
        refine ok_iload dX4_isAtRest_74 rfl ?_
        refine ok_callV (M' := mX0_gainBy) (b' := (0, 0)) (As := [_, _]) (cx := 0) dX4_isAtRest_76 iX0_gainBy w_531 (by decide) rfl (by first | exact is_lit hv (by decide) rfl | exact is_sq hv hq | exact is_row hv hq | exact is_pn hv hq (by assumption) | assumption) rfl (Nat.le_of_ble_eq_true rfl) ⟨Nat.le_of_ble_eq_true rfl, Nat.le_of_ble_eq_true rfl⟩ (Nat.le_of_ble_eq_true rfl) rfl rfl ?_
        refine sp_X0_gainBy (is_pn hv s2 hi10) _ _ ?_
        rw [ep 2 (by decide)]
        (first | rw [gI_0 c_66] | rw [gI_1 c_66])
        refine ok_istore (lo' := [_, _, _, _, _, _, _, _, _]) dX4_isAtRest_79 (Nat.le_of_ble_eq_true rfl) rfl rfl ?_
        refine ok_aload dX4_isAtRest_81 rfl ?_
        refine ok_iload_n dX4_isAtRest_83 rfl rfl ?_
        refine ok_iload_n dX4_isAtRest_84 rfl rfl ?_
        refine ok_iload dX4_isAtRest_85 rfl ?_
        refine ok_isub dX4_isAtRest_87 ?_
        refine ok_iload dX4_isAtRest_88 rfl ?_
        refine ok_iadd dX4_isAtRest_90 ?_
        refine ok_icmp_ge (tgt := 98) dX4_isAtRest_91 (by decide) (fun c_91 => ?_) (fun c_91 => ?_)
        · refine ok_iconst (v := 0) dX4_isAtRest_98 (by decide) ?_
          refine ok_iload dX4_isAtRest_99 rfl ?_
          refine ok_callV (M' := mX0_gainBy) (b' := (0, 0)) (As := [_, _]) (cx := 0) dX4_isAtRest_101 iX0_gainBy w_531 (by decide) rfl (by first | exact is_lit hv (by decide) rfl | exact is_sq hv hq | exact is_row hv hq | exact is_pn hv hq (by assumption) | assumption) rfl (Nat.le_of_ble_eq_true rfl) ⟨Nat.le_of_ble_eq_true rfl, Nat.le_of_ble_eq_true rfl⟩ (Nat.le_of_ble_eq_true rfl) rfl rfl ?_
          refine sp_X0_gainBy (is_pn hv s2 hi10) _ _ ?_
          rw [ep 2 (by decide)]
          (first | rw [gI_0 c_91] | rw [gI_1 c_91])
          refine ok_istore (lo' := [_, _, _, _, _, _, _, _, _]) dX4_isAtRest_104 (Nat.le_of_ble_eq_true rfl) rfl rfl ?_
          refine ok_aload dX4_isAtRest_106 rfl ?_
          refine ok_getI dX4_isAtRest_108 f_X4_73 (by first | exact is_lit hv (by decide) rfl | exact is_sq hv hq | exact is_row hv hq | exact is_pn hv hq (by assumption) | assumption) rfl ?_
          rw [ep 1 (by decide)]
          refine ok_iload dX4_isAtRest_111 rfl ?_
          refine ok_icmp_lt (tgt := 125) dX4_isAtRest_113 (by decide) (fun c_113 => ?_) (fun c_113 => ?_)
          · refine ok_iinc (v := _ + 1) (lo' := [_, _, _, _, _, _, _, _, _]) dX4_isAtRest_125 rfl rfl (Nat.le_of_ble_eq_true rfl) rfl rfl ?_
            refine ok_goto (tgt := 15) dX4_isAtRest_128 (by decide) ?_
            rw [nI_1]
            refine ih (i + 1) _ _ _ _ _ (by omega) (fun p hp => ?_)
            rcases Nat.lt_or_ge p i with hlt | hge
            · exact ha p hlt
            · rw [show p = i by omega]
              first | exact ⟨c_57, Or.inl c_113⟩ | exact ⟨c_57, Or.inr c_120⟩
          · refine ok_iload dX4_isAtRest_116 rfl ?_
            refine ok_iload dX4_isAtRest_118 rfl ?_
            refine ok_icmp_le (tgt := 125) dX4_isAtRest_120 (by decide) (fun c_120 => ?_) (fun c_120 => ?_)
            · refine ok_iinc (v := _ + 1) (lo' := [_, _, _, _, _, _, _, _, _]) dX4_isAtRest_125 rfl rfl (Nat.le_of_ble_eq_true rfl) rfl rfl ?_
              refine ok_goto (tgt := 15) dX4_isAtRest_128 (by decide) ?_
              rw [nI_1]
              refine ih (i + 1) _ _ _ _ _ (by omega) (fun p hp => ?_)
              rcases Nat.lt_or_ge p i with hlt | hge
              · exact ha p hlt
              · rw [show p = i by omega]
                first | exact ⟨c_57, Or.inl c_113⟩ | exact ⟨c_57, Or.inr c_120⟩
            · refine ok_iconst (v := 0) dX4_isAtRest_123 (by decide) ?_
              refine ok_ireturn dX4_isAtRest_124 rfl rfl ?_
              rw [rst_0 hi (fun z => z.2.elim c_113 c_120)] at K
              exact K
        · refine ok_iconst (v := 1) dX4_isAtRest_94 (by decide) ?_
          refine ok_goto (tgt := 99) dX4_isAtRest_95 (by decide) ?_
          refine ok_iload dX4_isAtRest_99 rfl ?_
          refine ok_callV (M' := mX0_gainBy) (b' := (0, 0)) (As := [_, _]) (cx := 0) dX4_isAtRest_101 iX0_gainBy w_531 (by decide) rfl (by first | exact is_lit hv (by decide) rfl | exact is_sq hv hq | exact is_row hv hq | exact is_pn hv hq (by assumption) | assumption) rfl (Nat.le_of_ble_eq_true rfl) ⟨Nat.le_of_ble_eq_true rfl, Nat.le_of_ble_eq_true rfl⟩ (Nat.le_of_ble_eq_true rfl) rfl rfl ?_
          refine sp_X0_gainBy (is_pn hv s2 hi10) _ _ ?_
          rw [ep 2 (by decide)]
          (first | rw [gI_0 c_91] | rw [gI_1 c_91])
          refine ok_istore (lo' := [_, _, _, _, _, _, _, _, _]) dX4_isAtRest_104 (Nat.le_of_ble_eq_true rfl) rfl rfl ?_
          refine ok_aload dX4_isAtRest_106 rfl ?_
          refine ok_getI dX4_isAtRest_108 f_X4_73 (by first | exact is_lit hv (by decide) rfl | exact is_sq hv hq | exact is_row hv hq | exact is_pn hv hq (by assumption) | assumption) rfl ?_
          rw [ep 1 (by decide)]
          refine ok_iload dX4_isAtRest_111 rfl ?_
          refine ok_icmp_lt (tgt := 125) dX4_isAtRest_113 (by decide) (fun c_113 => ?_) (fun c_113 => ?_)
          · refine ok_iinc (v := _ + 1) (lo' := [_, _, _, _, _, _, _, _, _]) dX4_isAtRest_125 rfl rfl (Nat.le_of_ble_eq_true rfl) rfl rfl ?_
            refine ok_goto (tgt := 15) dX4_isAtRest_128 (by decide) ?_
            rw [nI_1]
            refine ih (i + 1) _ _ _ _ _ (by omega) (fun p hp => ?_)
            rcases Nat.lt_or_ge p i with hlt | hge
            · exact ha p hlt
            · rw [show p = i by omega]
              first | exact ⟨c_57, Or.inl c_113⟩ | exact ⟨c_57, Or.inr c_120⟩
          · refine ok_iload dX4_isAtRest_116 rfl ?_
            refine ok_iload dX4_isAtRest_118 rfl ?_
            refine ok_icmp_le (tgt := 125) dX4_isAtRest_120 (by decide) (fun c_120 => ?_) (fun c_120 => ?_)
            · refine ok_iinc (v := _ + 1) (lo' := [_, _, _, _, _, _, _, _, _]) dX4_isAtRest_125 rfl rfl (Nat.le_of_ble_eq_true rfl) rfl rfl ?_
              refine ok_goto (tgt := 15) dX4_isAtRest_128 (by decide) ?_
              rw [nI_1]
              refine ih (i + 1) _ _ _ _ _ (by omega) (fun p hp => ?_)
              rcases Nat.lt_or_ge p i with hlt | hge
              · exact ha p hlt
              · rw [show p = i by omega]
                first | exact ⟨c_57, Or.inl c_113⟩ | exact ⟨c_57, Or.inr c_120⟩
            · refine ok_iconst (v := 0) dX4_isAtRest_123 (by decide) ?_
              refine ok_ireturn dX4_isAtRest_124 rfl rfl ?_
              rw [rst_0 hi (fun z => z.2.elim c_113 c_120)] at K
              exact K
    · refine ok_iconst (v := 0) dX4_isAtRest_60 (by decide) ?_
      refine ok_ireturn dX4_isAtRest_61 rfl rfl ?_
      rw [rst_0 hi (fun z => c_57 z.1)] at K
      exact K
theorem sp_X4_isAtRest {g : GG} {h : Hp} {Post : Option Value → Hp → Prop} {n : Nat} {r : Nat → Int32} (S : Hs h n r) {b : Nat} (hb : b < 1024) (K : Post (some (.int (w_rst r n b))) h) : Sp g mX4_isAtRest [.ref 0, .int (nI b)] h Post := by
  show Go g mX4_isAtRest 0 [_, _, _, _, _, _, _, _, _] [] _ _ _
  have hv := S.1
  have hn := S.2.2.1
  have hq := s2
  refine ok_aload_n dX4_isAtRest_0 rfl rfl ?_
  refine ok_getR dX4_isAtRest_1 f_X4_16 (by first | exact is_lit hv (by decide) rfl | exact is_sq hv hq | exact is_row hv hq | exact is_pn hv hq (by assumption) | assumption) rfl (by first | exact rf hv rfl | exact rf_row hv hq | assumption) ?_
  refine ok_getI dX4_isAtRest_4 f_X4_126 (by first | exact is_lit hv (by decide) rfl | exact is_sq hv hq | exact is_row hv hq | exact is_pn hv hq (by assumption) | assumption) rfl ?_
  refine ok_iload_n dX4_isAtRest_7 rfl rfl ?_
  refine ok_callS (M' := mJ6_bitCount_0f7a4) (b' := (0, 0)) (As := [_]) dX4_isAtRest_8 iJ6_bitCount_0f7a4 w_525 rfl (Nat.le_of_ble_eq_true rfl) ⟨Nat.le_of_ble_eq_true rfl, Nat.le_of_ble_eq_true rfl⟩ (Nat.le_of_ble_eq_true rfl) rfl rfl ?_
  refine sp_J6_bitCount_0f7a4 hb ?_
  refine ok_iadd dX4_isAtRest_11 ?_
  rw [S.2.1.2.2.2.1 0 (by decide)]
  refine ok_istore_n (lo' := [_, _, _, _, _, _, _, _, _]) dX4_isAtRest_12 rfl (Nat.le_of_ble_eq_true rfl) rfl rfl ?_
  refine ok_iconst (v := 0) dX4_isAtRest_13 (by decide) ?_
  refine ok_istore_n (lo' := [_, _, _, _, _, _, _, _, _]) dX4_isAtRest_14 rfl (Nat.le_of_ble_eq_true rfl) rfl rfl ?_
  exact lp_X4_isAtRest_15 S hb K n 0 _ _ _ _ _ (by omega) (fun p hp => absurd hp (by omega))
/-- the first place of the greatest, and it, among the first k + 1 -/
def am (f : Nat → Int32) : Nat → Nat × Int32
  | 0 => (0, f 0)
  | k + 1 => if f (k + 1) ≤ (am f k).2 then am f k else (k + 1, f (k + 1))
theorem am_le (f : Nat → Int32) : ∀ k, (am f k).1 ≤ k
  | 0 => Nat.le_refl _
  | k + 1 => by
    have := am_le f k
    rw [am]
    split
    · omega
    · exact Nat.le_refl _
theorem cut20 {u : Nat} (hu : u ≤ 999) : (if nI u < 20 then nI u else 20) = nI (if u < 20 then u else 20) := by
  have : (nI u < (20 : Int32)) ↔ u < 20 := nI_ltI (a := u) (b := 20) (by omega) (by decide)
  by_cases h : u < 20
  · rw [if_pos (this.mpr h), if_pos h]
  · rw [if_neg (fun z => h (this.mp z)), if_neg h]; rfl
def w_best (r : Nat → Int32) (n p u : Nat) : Nat := (am (fun c => w_gain r n (nI p) (nI c) p) (if u < 20 then u else 20)).1
theorem lp_X4_bestThrow_31 {g : GG} {h0 : Hp} {Post : Option Value → Hp → Prop} {n : Nat} {r : Nat → Int32} (S0 : Hs h0 n r) {p : Nat} (hp : p < n) {L : Nat} (hL : L ≤ 20) (K : ∀ h', Fr 14 h0 h' → Inv h' → Post (some (.int (nI (am (fun c => w_gain r n (nI p) (nI c) p) L).1))) h') : ∀ (k i : Nat) (h : Hp) (x6 : Option Value), i + k = L → Fr 14 h0 h → Inv h → Go g mX4_bestThrow 31 [some (.ref 0), some (.int (nI p)), some (.int (nI (am (fun c => w_gain r n (nI p) (nI c) p) i).1)), some (.int (am (fun c => w_gain r n (nI p) (nI c) p) i).2), some (.int (nI L)), some (.int (nI (i + 1))), x6] [] h (0, 0) Post := by
  intro k
  induction k with
  | zero =>
    intro i h x6 hik hF hv
    obtain rfl : i = L := by omega
    refine ok_iload dX4_bestThrow_31 rfl ?_
    refine ok_iload dX4_bestThrow_33 rfl ?_
    refine ok_icmp_gt (tgt := 65) dX4_bestThrow_35 (by decide) (fun _ => ?_) (fun c9 => absurd (nI_lt (by omega) (by omega)) c9)
    refine ok_iload_n dX4_bestThrow_65 rfl rfl ?_
    refine ok_ireturn dX4_bestThrow_66 rfl rfl ?_
    exact K h hF hv
  | succ k ih =>
    intro i h x6 hik hF hv
    have hi : i < L := by omega
    refine ok_iload dX4_bestThrow_31 rfl ?_
    refine ok_iload dX4_bestThrow_33 rfl ?_
    refine ok_icmp_gt (tgt := 65) dX4_bestThrow_35 (by decide) (fun c9 => absurd c9 (nI_nlt (by omega) (by omega))) (fun _ => ?_)
    refine ok_aload_n dX4_bestThrow_38 rfl rfl ?_
    refine ok_iload_n dX4_bestThrow_39 rfl rfl ?_
    refine ok_iload dX4_bestThrow_40 rfl ?_
    refine ok_callV (M' := mX4_gainThrowing) (b' := (0, 0)) (As := [_, _]) (cx := 4) dX4_bestThrow_42 iX4_gainThrowing w_455 (by decide) rfl (by first | exact is_lit hv (by decide) rfl | exact is_sq hv hq | exact is_row hv hq | exact is_pn hv hq (by assumption) | assumption) rfl (Nat.le_of_ble_eq_true rfl) ⟨Nat.le_of_ble_eq_true rfl, Nat.le_of_ble_eq_true rfl⟩ (Nat.le_of_ble_eq_true rfl) rfl rfl ?_
    have S1 := S0.fr hF hv
    refine sp_X4_gainThrowing S1 hp _ (fun h1 F1 hv1 => ?_)
    have hF1 := hF.tr F1
    have hv := hv1
    refine ok_istore (lo' := [_, _, _, _, _, _, _]) dX4_bestThrow_45 (Nat.le_of_ble_eq_true rfl) rfl rfl ?_
    refine ok_iload dX4_bestThrow_47 rfl ?_
    refine ok_iload_n dX4_bestThrow_49 rfl rfl ?_
    refine ok_icmp_le (tgt := 59) dX4_bestThrow_50 (by decide) (fun c_50 => ?_) (fun c_50 => ?_)
    · refine ok_iinc (v := _ + 1) (lo' := [_, _, _, _, _, _, _]) dX4_bestThrow_59 rfl rfl (Nat.le_of_ble_eq_true rfl) rfl rfl ?_
      refine ok_goto (tgt := 31) dX4_bestThrow_62 (by decide) ?_
      rw [nI_1]
      have e := ih (i + 1) h1 (some (.int (w_gain r n (nI p) (nI (i + 1)) p))) (by omega) hF1 hv1
      rw [am] at e
      first | (rw [if_pos c_50] at e; exact e) | (rw [if_neg c_50] at e; exact e)
    · refine ok_iload dX4_bestThrow_53 rfl ?_
      refine ok_istore_n (lo' := [_, _, _, _, _, _, _]) dX4_bestThrow_55 rfl (Nat.le_of_ble_eq_true rfl) rfl rfl ?_
      refine ok_iload dX4_bestThrow_56 rfl ?_
      refine ok_istore_n (lo' := [_, _, _, _, _, _, _]) dX4_bestThrow_58 rfl (Nat.le_of_ble_eq_true rfl) rfl rfl ?_
      refine ok_iinc (v := _ + 1) (lo' := [_, _, _, _, _, _, _]) dX4_bestThrow_59 rfl rfl (Nat.le_of_ble_eq_true rfl) rfl rfl ?_
      refine ok_goto (tgt := 31) dX4_bestThrow_62 (by decide) ?_
      rw [nI_1]
      have e := ih (i + 1) h1 (some (.int (w_gain r n (nI p) (nI (i + 1)) p))) (by omega) hF1 hv1
      rw [am] at e
      first | (rw [if_pos c_50] at e; exact e) | (rw [if_neg c_50] at e; exact e)
theorem sp_X4_bestThrow {g : GG} {h : Hp} {Post : Option Value → Hp → Prop} {n : Nat} {r : Nat → Int32} (S : Hs h n r) {p : Nat} (hp : p < n) {u : Nat} (hu : u ≤ 999) (h1u : ro r p 1 = nI u) (K : ∀ h', Fr 14 h h' → Inv h' → Post (some (.int (nI (w_best r n p u)))) h') : Sp g mX4_bestThrow [.ref 0, .int (nI p)] h Post := by
  show Go g mX4_bestThrow 0 [_, _, _, _, _, _, _] [] _ _ _
  have hv := S.1
  have hn := S.2.2.1
  have hq := s2
  have hp10 : p < 10 := by omega
  refine ok_iconst (v := 0) dX4_bestThrow_0 (by decide) ?_
  refine ok_istore_n (lo' := [_, _, _, _, _, _, _]) dX4_bestThrow_1 rfl (Nat.le_of_ble_eq_true rfl) rfl rfl ?_
  refine ok_aload_n dX4_bestThrow_2 rfl rfl ?_
  refine ok_iload_n dX4_bestThrow_3 rfl rfl ?_
  refine ok_iconst (v := 0) dX4_bestThrow_4 (by decide) ?_
  refine ok_callV (M' := mX4_gainThrowing) (b' := (0, 0)) (As := [_, _]) (cx := 4) dX4_bestThrow_5 iX4_gainThrowing w_455 (by decide) rfl (by first | exact is_lit hv (by decide) rfl | exact is_sq hv hq | exact is_row hv hq | exact is_pn hv hq (by assumption) | assumption) rfl (Nat.le_of_ble_eq_true rfl) ⟨Nat.le_of_ble_eq_true rfl, Nat.le_of_ble_eq_true rfl⟩ (Nat.le_of_ble_eq_true rfl) rfl rfl ?_
  refine sp_X4_gainThrowing S hp _ (fun h1 F1 hv1 => ?_)
  have S1 := S.fr F1 hv1
  have hv := hv1
  have hpu : hI h1 (pn h1 2 p) 1 = nI u := (S1.2.1.2.2.2.2 p 1 hp (by decide)).trans h1u
  refine ok_istore_n (lo' := [_, _, _, _, _, _, _]) dX4_bestThrow_8 rfl (Nat.le_of_ble_eq_true rfl) rfl rfl ?_
  refine ok_bipush (v := 20) dX4_bestThrow_9 (by decide) ?_
  refine ok_aload_n dX4_bestThrow_11 rfl rfl ?_
  refine ok_getR dX4_bestThrow_12 f_X4_16 (by first | exact is_lit hv (by decide) rfl | exact is_sq hv hq | exact is_row hv hq | exact is_pn hv hq (by assumption) | assumption) rfl (by first | exact rf hv rfl | exact rf_row hv hq | assumption) ?_
  refine ok_getR dX4_bestThrow_15 f_X4_64 (is_sq hv hq) rfl (rf_row hv hq) ?_
  refine ok_iload_n dX4_bestThrow_18 rfl rfl ?_
  refine ok_aaloadP dX4_bestThrow_19 (by first | exact is_lit hv (by decide) rfl | exact is_sq hv hq | exact is_row hv hq | exact is_pn hv hq (by assumption) | assumption) (by first | decide | exact vp_in_nI (by assumption) (by decide) | exact vp_in_nI (by omega) (by decide) | assumption) (by first | exact rf_nI hv hq (by assumption) | assumption) ?_
  refine ok_getI dX4_bestThrow_20 f_X4_73 (by first | exact is_lit hv (by decide) rfl | exact is_sq hv hq | exact is_row hv hq | exact is_pn hv hq (by assumption) | assumption) rfl ?_
  refine ok_min dX4_bestThrow_23 w_467 w_293 w_71 w_294 (Nat.le_of_ble_eq_true rfl) (Nat.le_of_ble_eq_true rfl) ?_
  rw [hpu, cut20 hu]
  refine ok_istore (lo' := [_, _, _, _, _, _, _]) dX4_bestThrow_26 (Nat.le_of_ble_eq_true rfl) rfl rfl ?_
  refine ok_iconst (v := 1) dX4_bestThrow_28 (by decide) ?_
  refine ok_istore (lo' := [_, _, _, _, _, _, _]) dX4_bestThrow_29 (Nat.le_of_ble_eq_true rfl) rfl rfl ?_
  exact lp_X4_bestThrow_31 S hp (by split <;> omega) K (if u < 20 then u else 20) 0 h1 _ (by omega) F1 hv1
