/-! ===== the reference: feed and wipe, sheets, image, counts ===== -/
/-! bytes -/
def byb (b : Int32) (k : Nat) : Nat := ((b >>> (8 * nI k &&& 31)) &&& 255).toBitVec.toNat
theorem byb_n (b : Int32) (k : Nat) : (b >>> (8 * nI k &&& 31)) &&& 255 = nI (byb b k) := by
  unfold byb nI
  generalize (b >>> (8 * Int32.ofNat k &&& 31)) &&& 255 = x
  apply Int32.toBitVec_inj.mp
  show x.toBitVec = BitVec.ofNat 32 x.toBitVec.toNat
  rw [BitVec.ofNat_toNat, BitVec.setWidth_eq]
theorem byb_lt (b : Int32) (k : Nat) : byb b k < 256 := by
  unfold byb
  generalize b >>> (8 * nI k &&& 31) = x
  rw [Int32.toBitVec_and, BitVec.toNat_and]
  exact Nat.lt_of_le_of_lt Nat.and_le_right (by decide)
theorem byt (x : Int32) : (x &&& 255).toInt8 = x.toInt8 := by
  apply Int8.toBitVec_inj.mp
  show (x.toBitVec &&& (255 : Int32).toBitVec).signExtend 8 = x.toBitVec.signExtend 8
  apply BitVec.eq_of_getLsbD_eq
  intro i hi
  rw [BitVec.getLsbD_signExtend, BitVec.getLsbD_signExtend, if_pos (by omega), if_pos (by omega), BitVec.getLsbD_and]
  have : (255 : Int32).toBitVec.getLsbD i = true := by
    rcases (show i = 0 ∨ i = 1 ∨ i = 2 ∨ i = 3 ∨ i = 4 ∨ i = 5 ∨ i = 6 ∨ i = 7 by omega) with rfl | rfl | rfl | rfl | rfl | rfl | rfl | rfl <;> decide
  rw [this, Bool.and_true]
theorem byb_s (b : Int32) (k : Nat) : vp_nar .byte ((b >>> (8 * nI k &&& 31)).toInt8.toInt32) = sb (byb b k) := by
  unfold sb
  rw [← byb_n, byt]
  generalize (b >>> (8 * nI k &&& 31)).toInt8 = y
  show (y.toInt32).toInt8.toInt32 = y.toInt32
  rw [Int8.toInt8_toInt32]
def upT (T : Nat → Nat) (z t : Nat) : Nat → Nat := fun i => if i = z then t else T i
def fdT (b : Int32) : Nat → (Nat → Nat) → Nat → Nat → Nat
  | 0, T, _ => T
  | k + 1, T, z => fdT b k (upT T z (byb b k)) (z + 1)
theorem BT.ap {h : Hp} {T : Nat → Nat} {z k : Nat} (B : BT h T z) (hz : z < 120) (b : Int32) : BT (hap h ((b >>> (8 * nI k &&& 31)).toInt8.toInt32)) (upT T z (byb b k)) (z + 1) := by
  obtain ⟨b1, b2, b3, b4⟩ := B
  refine ⟨by omega, at_ap (by omega) b2, fun i => ?_, fun i hi => ?_⟩
  · unfold upT
    split
    · exact byb_lt b k
    · exact b3 i
  · unfold hap upT
    rw [at_ua (by decide), at_uo, b2, nI_clamp (by omega), byb_s]
    by_cases e : i = z
    · rw [if_pos e, if_pos e]
    · rw [if_neg e, if_neg e]
      exact b4 i (by omega)
theorem BT.feed {b : Int32} : ∀ (k : Nat) {h : Hp} {T : Nat → Nat} {z : Nat}, BT h T z → z + k ≤ 120 → BT (hfd b k h) (fdT b k T z) (z + k)
  | 0, _, _, _, B, _ => B
  | k + 1, h, T, z, B, hz => by
    rw [show z + (k + 1) = z + 1 + k by omega]
    exact BT.feed k (B.ap (by omega) b) (by omega)
/-- the class's tape alone -/
def FC (h h' : Hp) : Prop := h'.2 = h.2 ∧ ∀ a, a ≠ 38 → a ≠ 39 → h'.1 a = h.1 a
theorem FC.feed {b : Int32} : ∀ (k : Nat) (h : Hp), FC h (hfd b k h)
  | 0, _ => ⟨rfl, fun _ _ _ => rfl⟩
  | k + 1, h => by
    have ih := FC.feed (b := b) k (hap h ((b >>> (8 * nI k &&& 31)).toInt8.toInt32))
    refine ⟨ih.1, fun a h1 h2 => (ih.2 a h1 h2).trans ?_⟩
    unfold hap
    rw [uI_f h1, uI_f h2]
/-- the reference's tape alone -/
def FE (h h' : Hp) : Prop := h'.2 = h.2 ∧ (∀ a, a ≠ 49 → a ≠ 55 → h'.1 a = h.1 a) ∧ h'.1 49 20 = h.1 49 20
theorem FE.ap {h0 h : Hp} (F : FE h0 h) {z : Nat} {v w : Int32} : FE h0 (uI (uI h 55 z v) 49 7 w) := ⟨F.1, fun a h1 h2 => by rw [uI_f h1, uI_f h2]; exact F.2.1 a h1 h2, (at_un (by decide)).trans ((at_ua (by decide)).trans F.2.2)⟩
theorem MT.ap {h : Hp} {T : Nat → Nat} {z k : Nat} (B : MT h T z) (hz : z < 120) (b : Int32) : MT (uI (uI h 55 z (nI (byb b k))) 49 7 (nI (z + 1))) (upT T z (byb b k)) (z + 1) := by
  obtain ⟨b1, b2, b3, b4⟩ := B
  refine ⟨by omega, at_uI, fun i => ?_, fun i hi => ?_⟩
  · unfold upT
    split
    · exact byb_lt b k
    · exact b3 i
  · unfold upT
    rw [at_ua (by decide), at_uo]
    by_cases e : i = z
    · rw [if_pos e, if_pos e]
    · rw [if_neg e, if_neg e]
      exact b4 i (by omega)
theorem sp_X5_feed_b {g : GG} {h : Hp} {Post : Option Value → Hp → Prop} (hv : Inv h) (b : Int32) {v : Int32} (hb : v < 1 ∨ 4 < v) (K : Post (some (.int (-1000000001))) (hfm h 0)) : Sp g mX5_feed [.ref 49, .int b, .int v] h Post := by
  show Go g mX5_feed 0 [_, _, _, _] [] _ _ _
  refine ok_iload_n dX5_feed_0 rfl rfl ?_
  refine ok_iconst (v := 1) dX5_feed_1 (by decide) ?_
  refine ok_iconst (v := 4) dX5_feed_2 (by decide) ?_
  refine ok_callS (M' := mX5_in) (b' := (0, 0)) (As := [_, _, _]) dX5_feed_3 iX5_in w_846 rfl (Nat.le_of_ble_eq_true rfl) ⟨Nat.le_of_ble_eq_true rfl, Nat.le_of_ble_eq_true rfl⟩ (Nat.le_of_ble_eq_true rfl) rfl rfl ?_
  refine sp_X5_in _ _ _ ?_
  rw [wi_bad hb]
  refine ok_if_ne (tgt := 16) dX5_feed_6 (by decide) (fun c9 => absurd c9 (fun c => c rfl)) (fun _ => ?_)
  refine ok_aload_n dX5_feed_9 rfl rfl ?_
  refine ok_ldc dX5_feed_10 w_849 ?_
  refine ok_callV (M' := mX5_finds) (b' := (0, 0)) (As := [_]) (cx := 5) dX5_feed_12 iX5_finds w_850 (by decide) rfl (by first | exact is_lit hv (by decide) rfl | exact is_sq hv hq | exact is_row hv hq | exact is_pn hv hq (by assumption) | assumption) rfl (Nat.le_of_ble_eq_true rfl) ⟨Nat.le_of_ble_eq_true rfl, Nat.le_of_ble_eq_true rfl⟩ (Nat.le_of_ble_eq_true rfl) rfl rfl ?_
  refine sp_X5_finds hv (k := 0) (by decide) (by decide) ?_
  refine ok_ireturn dX5_feed_15 rfl rfl ?_
  first | exact K | (simp only [↓reduceIte] at K; exact K)
theorem sp_X5_feed_f {g : GG} {h : Hp} {Post : Option Value → Hp → Prop} (hv : Inv h) (b : Int32) {v : Int32} (h1 : ¬ v < 1) (h2 : ¬ 4 < v) (hf : ¬ hI h 49 7 + v ≤ 120) (K : Post (some (.int (-1000000002))) (hfm h 1)) : Sp g mX5_feed [.ref 49, .int b, .int v] h Post := by
  show Go g mX5_feed 0 [_, _, _, _] [] _ _ _
  refine ok_iload_n dX5_feed_0 rfl rfl ?_
  refine ok_iconst (v := 1) dX5_feed_1 (by decide) ?_
  refine ok_iconst (v := 4) dX5_feed_2 (by decide) ?_
  refine ok_callS (M' := mX5_in) (b' := (0, 0)) (As := [_, _, _]) dX5_feed_3 iX5_in w_846 rfl (Nat.le_of_ble_eq_true rfl) ⟨Nat.le_of_ble_eq_true rfl, Nat.le_of_ble_eq_true rfl⟩ (Nat.le_of_ble_eq_true rfl) rfl rfl ?_
  refine sp_X5_in _ _ _ ?_
  rw [wi_ok h1 h2]
  refine ok_if_ne (tgt := 16) dX5_feed_6 (by decide) (fun _ => ?_) (fun c9 => absurd c9 (by decide))
  refine ok_aload_n dX5_feed_16 rfl rfl ?_
  refine ok_getI dX5_feed_17 f_X5_160 (by first | exact is_lit hv (by decide) rfl | exact is_sq hv hq | exact is_row hv hq | exact is_pn hv hq (by assumption) | assumption) rfl ?_
  refine ok_iload_n dX5_feed_20 rfl rfl ?_
  refine ok_iadd dX5_feed_21 ?_
  refine ok_bipush (v := 120) dX5_feed_22 (by decide) ?_
  refine ok_icmp_le (tgt := 34) dX5_feed_24 (by decide) (fun c9 => absurd c9 hf) (fun _ => ?_)
  refine ok_aload_n dX5_feed_27 rfl rfl ?_
  refine ok_ldc dX5_feed_28 w_854 ?_
  refine ok_callV (M' := mX5_finds) (b' := (0, 0)) (As := [_]) (cx := 5) dX5_feed_30 iX5_finds w_850 (by decide) rfl (by first | exact is_lit hv (by decide) rfl | exact is_sq hv hq | exact is_row hv hq | exact is_pn hv hq (by assumption) | assumption) rfl (Nat.le_of_ble_eq_true rfl) ⟨Nat.le_of_ble_eq_true rfl, Nat.le_of_ble_eq_true rfl⟩ (Nat.le_of_ble_eq_true rfl) rfl rfl ?_
  refine sp_X5_finds hv (k := 1) (by decide) (by decide) ?_
  refine ok_ireturn dX5_feed_33 rfl rfl ?_
  first | exact K | (simp only [↓reduceIte] at K; exact K)
theorem lp_X5_feed_38 {g : GG} {h0 : Hp} {Post : Option Value → Hp → Prop} (hv0 : Inv h0) (b v : Int32) : ∀ (k : Nat) (h : Hp) (T : Nat → Nat) (z : Nat), FE h0 h → MT h T z → z + k ≤ 120 → (∀ h', FE h0 h' → MT h' (fdT b k T z) (z + k) → Post (some (.int (nI (z + k)))) h') → Go g mX5_feed 38 [some (.ref 49), some (.int b), some (.int v), some (.int (nI k - 1))] [] h (0, 0) Post := by
  intro k
  induction k with
  | zero =>
    intro h T z F B hz K
    have hv := hv0.of F.1
    refine ok_iload_n dX5_feed_38 rfl rfl ?_
    refine ok_if_lt (tgt := 77) dX5_feed_39 (by decide) (fun _ => ?_) (fun c9 => absurd (by decide) c9)
    refine ok_aload_n dX5_feed_77 rfl rfl ?_
    refine ok_getI dX5_feed_78 f_X5_160 (by first | exact is_lit hv (by decide) rfl | exact is_sq hv hq | exact is_row hv hq | exact is_pn hv hq (by assumption) | assumption) rfl ?_
    rw [B.2.1]
    refine ok_ireturn dX5_feed_81 rfl rfl ?_
    exact K h F B
  | succ k ih =>
    intro h T z F B hz K
    have hv := hv0.of F.1
    rw [show z + (k + 1) = z + 1 + k by omega] at K
    rw [nI_p1 (by omega)]
    refine ok_iload_n dX5_feed_38 rfl rfl ?_
    refine ok_if_lt (tgt := 77) dX5_feed_39 (by decide) (fun c9 => absurd c9 (nI_pos (by omega))) (fun _ => ?_)
    refine ok_aload_n dX5_feed_42 rfl rfl ?_
    refine ok_getR dX5_feed_43 f_X5_25 (by first | exact is_lit hv (by decide) rfl | exact is_sq hv hq | exact is_row hv hq | exact is_pn hv hq (by assumption) | assumption) rfl (by first | exact rf hv rfl | exact rf_row hv hq | assumption) ?_
    refine ok_aload_n dX5_feed_46 rfl rfl ?_
    refine ok_getI dX5_feed_47 f_X5_160 (by first | exact is_lit hv (by decide) rfl | exact is_sq hv hq | exact is_row hv hq | exact is_pn hv hq (by assumption) | assumption) rfl ?_
    rw [B.2.1]
    refine ok_iload_n dX5_feed_50 rfl rfl ?_
    refine ok_bipush (v := 8) dX5_feed_51 (by decide) ?_
    refine ok_iload_n dX5_feed_53 rfl rfl ?_
    refine ok_imul dX5_feed_54 ?_
    refine ok_ishr dX5_feed_55 ?_
    refine ok_sipush (v := 255) dX5_feed_56 (by decide) ?_
    refine ok_iand dX5_feed_59 ?_
    rw [byb_n]
    refine ok_iastore dX5_feed_60 (is_lit hv (by decide) rfl) (vp_in_nI (by omega) (by decide)) ?_
    rw [nI_clamp (by omega)]
    refine ok_aload_n dX5_feed_61 rfl rfl ?_
    refine ok_dup dX5_feed_62 rfl ?_
    refine ok_getI dX5_feed_63 f_X5_160 (by first | exact is_lit hv (by decide) rfl | exact is_sq hv hq | exact is_row hv hq | exact is_pn hv hq (by assumption) | assumption) rfl ?_
    rw [at_ua (by decide), B.2.1]
    refine ok_iconst (v := 1) dX5_feed_66 (by decide) ?_
    refine ok_iadd dX5_feed_67 ?_
    rw [nI_1]
    refine ok_putI dX5_feed_68 f_X5_160 (by first | exact is_lit hv (by decide) rfl | exact is_sq hv hq | exact is_row hv hq | exact is_pn hv hq (by assumption) | assumption) rfl rfl rfl rfl ?_
    refine ok_iinc (v := _ + (-1)) (lo' := [_, _, _, _]) dX5_feed_71 rfl rfl (Nat.le_of_ble_eq_true rfl) rfl rfl ?_
    refine ok_goto (tgt := 38) dX5_feed_74 (by decide) ?_
    rw [nI_m1]
    exact ih _ _ (z + 1) F.ap (B.ap (by omega) b) (by omega) K
theorem sp_X5_feed {g : GG} {h : Hp} {Post : Option Value → Hp → Prop} (hv : Inv h) {T : Nat → Nat} {z : Nat} (B : MT h T z) (b : Int32) {k : Nat} (h1 : 1 ≤ k) (h2 : k ≤ 4) (hz : z + k ≤ 120) (K : ∀ h', FE h h' → MT h' (fdT b k T z) (z + k) → Post (some (.int (nI (z + k)))) h') : Sp g mX5_feed [.ref 49, .int b, .int (nI k)] h Post := by
  show Go g mX5_feed 0 [_, _, _, _] [] _ _ _
  refine ok_iload_n dX5_feed_0 rfl rfl ?_
  refine ok_iconst (v := 1) dX5_feed_1 (by decide) ?_
  refine ok_iconst (v := 4) dX5_feed_2 (by decide) ?_
  refine ok_callS (M' := mX5_in) (b' := (0, 0)) (As := [_, _, _]) dX5_feed_3 iX5_in w_846 rfl (Nat.le_of_ble_eq_true rfl) ⟨Nat.le_of_ble_eq_true rfl, Nat.le_of_ble_eq_true rfl⟩ (Nat.le_of_ble_eq_true rfl) rfl rfl ?_
  refine sp_X5_in _ _ _ ?_
  rw [wi_ok (v := nI k) (l := 1) (u := 4) (nI_nlt (a := k) (b := 1) h1 (by omega)) (nI_nlt (a := 4) (b := k) h2 (by omega))]
  refine ok_if_ne (tgt := 16) dX5_feed_6 (by decide) (fun _ => ?_) (fun c9 => absurd c9 (by decide))
  refine ok_aload_n dX5_feed_16 rfl rfl ?_
  refine ok_getI dX5_feed_17 f_X5_160 (by first | exact is_lit hv (by decide) rfl | exact is_sq hv hq | exact is_row hv hq | exact is_pn hv hq (by assumption) | assumption) rfl ?_
  rw [B.2.1]
  refine ok_iload_n dX5_feed_20 rfl rfl ?_
  refine ok_iadd dX5_feed_21 ?_
  rw [nI_pl (by omega)]
  refine ok_bipush (v := 120) dX5_feed_22 (by decide) ?_
  refine ok_icmp_le (tgt := 34) dX5_feed_24 (by decide) (fun _ => ?_) (fun c9 => absurd (nI_le (a := z + k) (b := 120) hz (by omega)) c9)
  refine ok_iload_n dX5_feed_34 rfl rfl ?_
  refine ok_iconst (v := 1) dX5_feed_35 (by decide) ?_
  refine ok_isub dX5_feed_36 ?_
  refine ok_istore_n (lo' := [_, _, _, _]) dX5_feed_37 rfl (Nat.le_of_ble_eq_true rfl) rfl rfl ?_
  exact lp_X5_feed_38 hv b _ k h T z ⟨rfl, fun _ _ _ => rfl, rfl⟩ B hz K
theorem sp_X5_wipe {g : GG} {h : Hp} {Post : Option Value → Hp → Prop} (hv : Inv h) (K : Post (some (.int (hI h 49 7))) (uI h 49 7 0)) : Sp g mX5_wipe [.ref 49] h Post := by
  show Go g mX5_wipe 0 [_, _] [] _ _ _
  refine ok_aload_n dX5_wipe_0 rfl rfl ?_
  refine ok_getI dX5_wipe_1 f_X5_160 (by first | exact is_lit hv (by decide) rfl | exact is_sq hv hq | exact is_row hv hq | exact is_pn hv hq (by assumption) | assumption) rfl ?_
  refine ok_istore_n (lo' := [_, _]) dX5_wipe_4 rfl (Nat.le_of_ble_eq_true rfl) rfl rfl ?_
  refine ok_aload_n dX5_wipe_5 rfl rfl ?_
  refine ok_iconst (v := 0) dX5_wipe_6 (by decide) ?_
  refine ok_putI dX5_wipe_7 f_X5_160 (by first | exact is_lit hv (by decide) rfl | exact is_sq hv hq | exact is_row hv hq | exact is_pn hv hq (by assumption) | assumption) rfl rfl rfl rfl ?_
  refine ok_iload_n dX5_wipe_10 rfl rfl ?_
  refine ok_ireturn dX5_wipe_11 rfl rfl ?_
  first | exact K | (simp only [↓reduceIte] at K; exact K)
/-! sheets -/
theorem sm_bad {v : Int32} (hb : v < 0 ∨ 4 ≤ v) : (if v < 0 then (0 : Int32) else if 3 < v then 0 else 1) = 0 := by
  refine wi_bad (hb.imp id (fun h => ?_))
  rw [i_le] at h
  rw [i_lt]
  have e3 : (3 : Int32).toInt = 3 := rfl
  have e4 : (4 : Int32).toInt = 4 := rfl
  omega
theorem sm_ok : ∀ s, s < 4 → (if nI s < 0 then (0 : Int32) else if 3 < nI s then 0 else 1) = 1 := by decide
theorem ix40 : ∀ s, s < 4 → ∀ i, i < 41 → 40 * nI s + nI i = nI (40 * s + i) := by decide +kernel
theorem sz_bad {i : Int32} {z : Nat} (hz : z ≤ 40) (hb : i < 0 ∨ nI z ≤ i) : (if i < 0 then (0 : Int32) else if nI z - 1 < i then 0 else 1) = 0 := by
  refine wi_bad (hb.imp id (fun h => ?_))
  have e1 : (1 : Int32).toInt = 1 := rfl
  rw [i_le, nI_toInt (by omega)] at h
  rw [i_lt, fb_subI (by rw [nI_toInt (by omega), e1]; omega) (by rw [nI_toInt (by omega), e1]; omega), nI_toInt (by omega), e1]
  omega
theorem sz_ok {i z : Nat} (hz : z ≤ 40) (hi : i < z) : (if nI i < 0 then (0 : Int32) else if nI z - 1 < nI i then 0 else 1) = 1 := by
  rw [if_neg (nI_pos (by omega)), if_neg (fun c => by have := (lt_last (by omega) (by omega)).mp c; omega)]
def zS (h : Hp) (s n : Nat) : Hp := (h.1, fun q j => if q = 58 ∧ 40 * s ≤ j ∧ j < 40 * s + n then 0 else h.2.1 q j, h.2.2)
theorem zS_0 (h : Hp) (s : Nat) : zS h s 0 = h := by
  have : (fun q j => if q = 58 ∧ 40 * s ≤ j ∧ j < 40 * s + 0 then (0 : Int64) else h.2.1 q j) = h.2.1 := funext fun q => funext fun j => if_neg (by omega)
  show (h.1, _, h.2.2) = h
  rw [this]
theorem zS_s (h : Hp) (s i : Nat) : uL (zS h s i) 58 (40 * s + i) 0 = zS h s (i + 1) := by
  have : (fun q j => if q = 58 ∧ j = 40 * s + i then (0 : Int64) else if q = 58 ∧ 40 * s ≤ j ∧ j < 40 * s + i then 0 else h.2.1 q j) = fun q j => if q = 58 ∧ 40 * s ≤ j ∧ j < 40 * s + (i + 1) then 0 else h.2.1 q j := by
    funext q j
    by_cases e : q = 58 ∧ j = 40 * s + i
    · rw [if_pos e, if_pos (by omega)]
    · rw [if_neg e]
      by_cases e2 : q = 58 ∧ 40 * s ≤ j ∧ j < 40 * s + i
      · rw [if_pos e2, if_pos (by omega)]
      · rw [if_neg e2, if_neg (by omega)]
  show (h.1, _, h.2.2) = (h.1, _, h.2.2)
  rw [← this]
  rfl
theorem bm_l {c k : Nat} (n : Nat) (hc : 0 < c) : (((n * c : Nat) : Int).bmod (2 * k * c)) / (c : Int) = (n : Int).bmod (2 * k) := by
  have hc0 : (c : Int) ≠ 0 := by omega
  have e : ((n * c : Nat) : Int) % ((2 * k * c : Nat) : Int) = ((n % (2 * k) : Nat) : Int) * (c : Int) := by
    rw [← Int.natCast_emod, Nat.mul_mod_mul_right, Int.natCast_mul]
  have e2 : (n : Int) % ((2 * k : Nat) : Int) = ((n % (2 * k) : Nat) : Int) := (Int.natCast_emod n (2 * k)).symm
  rw [Int.bmod_def, Int.bmod_def, e, e2]
  generalize n % (2 * k) = t
  have a1 : (((2 * k * c : Nat) : Int) + 1) / 2 = ((k * c : Nat) : Int) := by
    rw [Nat.mul_assoc]
    omega
  have a2 : (((2 * k : Nat) : Int) + 1) / 2 = (k : Int) := by omega
  rw [a1, a2]
  by_cases h : t < k
  · have h1 : (t : Int) * (c : Int) < ((k * c : Nat) : Int) := by
      rw [← Int.natCast_mul]
      exact Int.ofNat_lt.mpr (Nat.mul_lt_mul_of_pos_right h hc)
    rw [if_pos h1, if_pos (Int.ofNat_lt.mpr h), Int.mul_ediv_cancel _ hc0]
  · have h1 : ¬ (t : Int) * (c : Int) < ((k * c : Nat) : Int) := by
      rw [← Int.natCast_mul]
      exact fun z => absurd (Int.ofNat_lt.mp z) (Nat.not_lt.mpr (Nat.mul_le_mul_right c (Nat.not_lt.mp h)))
    rw [if_neg h1, if_neg (fun z => h (Int.ofNat_lt.mp z)), Int.natCast_mul (2 * k) c, ← Int.sub_mul, Int.mul_ediv_cancel _ hc0]
theorem nar_8 (v : Int64) : (v <<< ((56 : Int32).toInt64 &&& 63)) >>> ((56 : Int32).toInt64 &&& 63) = v.toInt32.toInt8.toInt32.toInt64 := by
  rw [show ((56 : Int32).toInt64 &&& 63) = 56 by decide]
  apply Int64.toInt_inj.mp
  have hs : ((56 : Int64).toBitVec.smod 64).toNat = 56 := by decide
  have h1 : ((v <<< (56 : Int64)) >>> (56 : Int64)).toInt = ((v.toBitVec <<< 56).toInt) >>> 56 := by
    show ((v.toBitVec <<< ((56 : Int64).toBitVec.smod 64)).sshiftRight' ((56 : Int64).toBitVec.smod 64)).toInt = _
    rw [BitVec.toInt_sshiftRight', BitVec.shiftLeft_eq', hs]
  have h2 : v.toInt = (v.toBitVec.toNat : Int).bmod (2 ^ 64) := BitVec.toInt_eq_toNat_bmod _
  have h3 : (v.toBitVec <<< 56).toInt = ((v.toBitVec.toNat * 2 ^ 56 : Nat) : Int).bmod (2 ^ 64) := by
    rw [BitVec.toInt_eq_toNat_bmod, BitVec.toNat_shiftLeft, Nat.shiftLeft_eq, Int.natCast_emod]
    exact Int.emod_bmod _ _
  rw [h1, h3, Int32.toInt_toInt64, Int8.toInt_toInt32, Int32.toInt_toInt8, Int64.toInt_toInt32, h2, Int.bmod_bmod_of_dvd (by decide), Int.bmod_bmod_of_dvd (by decide), Int.shiftRight_eq_div_pow]
  exact bm_l (c := 2 ^ 56) (k := 128) v.toBitVec.toNat (by decide)
theorem nar_16 (v : Int64) : (v <<< ((48 : Int32).toInt64 &&& 63)) >>> ((48 : Int32).toInt64 &&& 63) = v.toInt32.toInt16.toInt32.toInt64 := by
  rw [show ((48 : Int32).toInt64 &&& 63) = 48 by decide]
  apply Int64.toInt_inj.mp
  have hs : ((48 : Int64).toBitVec.smod 64).toNat = 48 := by decide
  have h1 : ((v <<< (48 : Int64)) >>> (48 : Int64)).toInt = ((v.toBitVec <<< 48).toInt) >>> 48 := by
    show ((v.toBitVec <<< ((48 : Int64).toBitVec.smod 64)).sshiftRight' ((48 : Int64).toBitVec.smod 64)).toInt = _
    rw [BitVec.toInt_sshiftRight', BitVec.shiftLeft_eq', hs]
  have h2 : v.toInt = (v.toBitVec.toNat : Int).bmod (2 ^ 64) := BitVec.toInt_eq_toNat_bmod _
  have h3 : (v.toBitVec <<< 48).toInt = ((v.toBitVec.toNat * 2 ^ 48 : Nat) : Int).bmod (2 ^ 64) := by
    rw [BitVec.toInt_eq_toNat_bmod, BitVec.toNat_shiftLeft, Nat.shiftLeft_eq, Int.natCast_emod]
    exact Int.emod_bmod _ _
  rw [h1, h3, Int32.toInt_toInt64, Int16.toInt_toInt32, Int32.toInt_toInt16, Int64.toInt_toInt32, h2, Int.bmod_bmod_of_dvd (by decide), Int.bmod_bmod_of_dvd (by decide), Int.shiftRight_eq_div_pow]
  exact bm_l (c := 2 ^ 48) (k := 32768) v.toBitVec.toNat (by decide)
theorem sp_X5_narrow {g : GG} {h : Hp} {Post : Option Value → Hp → Prop} (b : Int32) (v : Int64) (K : Post (some (.long (w_nar b v))) h) : Sp g mX5_narrow [.int b, .long v] h Post := by
  show Go g mX5_narrow 0 [_, _, _] [] _ _ _
  unfold w_nar at K
  refine ok_iload_n dX5_narrow_0 rfl rfl ?_
  refine ok_bipush (v := 8) dX5_narrow_1 (by decide) ?_
  refine ok_icmp_ne (tgt := 16) dX5_narrow_3 (by decide) (fun c_3 => ?_) (fun c_3 => ?_)
  · refine ok_iload_n dX5_narrow_16 rfl rfl ?_
    refine ok_bipush (v := 16) dX5_narrow_17 (by decide) ?_
    refine ok_icmp_ne (tgt := 32) dX5_narrow_19 (by decide) (fun c_19 => ?_) (fun c_19 => ?_)
    · refine ok_lload_n dX5_narrow_32 rfl rfl ?_
      refine ok_lreturn dX5_narrow_33 rfl ?_
      first | (rw [if_pos c_3] at K; rw [nar_8]; exact K) | (rw [if_neg c_3, if_pos c_19] at K; rw [nar_16]; exact K) | (rw [if_neg c_3, if_neg c_19] at K; exact K)
    · refine ok_lload_n dX5_narrow_22 rfl rfl ?_
      refine ok_bipush (v := 48) dX5_narrow_23 (by decide) ?_
      refine ok_lshl dX5_narrow_25 ?_
      refine ok_bipush (v := 48) dX5_narrow_26 (by decide) ?_
      refine ok_lshr dX5_narrow_28 ?_
      refine ok_goto (tgt := 33) dX5_narrow_29 (by decide) ?_
      refine ok_lreturn dX5_narrow_33 rfl ?_
      first | (rw [if_pos c_3] at K; rw [nar_8]; exact K) | (rw [if_neg c_3, if_pos c_19] at K; rw [nar_16]; exact K) | (rw [if_neg c_3, if_neg c_19] at K; exact K)
  · refine ok_lload_n dX5_narrow_6 rfl rfl ?_
    refine ok_bipush (v := 56) dX5_narrow_7 (by decide) ?_
    refine ok_lshl dX5_narrow_9 ?_
    refine ok_bipush (v := 56) dX5_narrow_10 (by decide) ?_
    refine ok_lshr dX5_narrow_12 ?_
    refine ok_goto (tgt := 33) dX5_narrow_13 (by decide) ?_
    refine ok_lreturn dX5_narrow_33 rfl ?_
    first | (rw [if_pos c_3] at K; rw [nar_8]; exact K) | (rw [if_neg c_3, if_pos c_19] at K; rw [nar_16]; exact K) | (rw [if_neg c_3, if_neg c_19] at K; exact K)
theorem lp_X5_sheet_7 {g : GG} {h : Hp} {Post : Option Value → Hp → Prop} {b x1 : Int32} {x3 : Int32} (hb : Wb b) (K : Go g mX5_sheet 36 [some (.ref 49), some (.int x1), some (.int b), some (.int x3), none] [] h (0, 0) Post) : Go g mX5_sheet 7 [some (.ref 49), some (.int x1), some (.int b), some (.int x3), none] [] h (0, 0) Post := by
  rcases hb with rfl | rfl | rfl | rfl
  · refine ok_iload_n dX5_sheet_7 rfl rfl ?_
    refine ok_if_eq (tgt := 36) dX5_sheet_8 (by decide) (fun _ => ?_) (fun c9 => absurd rfl c9)
    exact K
  · refine ok_iload_n dX5_sheet_7 rfl rfl ?_
    refine ok_if_eq (tgt := 36) dX5_sheet_8 (by decide) (fun c9 => absurd c9 (by decide)) (fun _ => ?_)
    refine ok_iload_n dX5_sheet_11 rfl rfl ?_
    refine ok_bipush (v := 8) dX5_sheet_12 (by decide) ?_
    refine ok_icmp_eq (tgt := 36) dX5_sheet_14 (by decide) (fun _ => ?_) (fun c9 => absurd rfl c9)
    exact K
  · refine ok_iload_n dX5_sheet_7 rfl rfl ?_
    refine ok_if_eq (tgt := 36) dX5_sheet_8 (by decide) (fun c9 => absurd c9 (by decide)) (fun _ => ?_)
    refine ok_iload_n dX5_sheet_11 rfl rfl ?_
    refine ok_bipush (v := 8) dX5_sheet_12 (by decide) ?_
    refine ok_icmp_eq (tgt := 36) dX5_sheet_14 (by decide) (fun c9 => absurd c9 (by decide)) (fun _ => ?_)
    refine ok_iload_n dX5_sheet_17 rfl rfl ?_
    refine ok_bipush (v := 16) dX5_sheet_18 (by decide) ?_
    refine ok_icmp_eq (tgt := 36) dX5_sheet_20 (by decide) (fun _ => ?_) (fun c9 => absurd rfl c9)
    exact K
  · refine ok_iload_n dX5_sheet_7 rfl rfl ?_
    refine ok_if_eq (tgt := 36) dX5_sheet_8 (by decide) (fun c9 => absurd c9 (by decide)) (fun _ => ?_)
    refine ok_iload_n dX5_sheet_11 rfl rfl ?_
    refine ok_bipush (v := 8) dX5_sheet_12 (by decide) ?_
    refine ok_icmp_eq (tgt := 36) dX5_sheet_14 (by decide) (fun c9 => absurd c9 (by decide)) (fun _ => ?_)
    refine ok_iload_n dX5_sheet_17 rfl rfl ?_
    refine ok_bipush (v := 16) dX5_sheet_18 (by decide) ?_
    refine ok_icmp_eq (tgt := 36) dX5_sheet_20 (by decide) (fun c9 => absurd c9 (by decide)) (fun _ => ?_)
    refine ok_iload_n dX5_sheet_23 rfl rfl ?_
    refine ok_bipush (v := 64) dX5_sheet_24 (by decide) ?_
    refine ok_icmp_eq (tgt := 36) dX5_sheet_26 (by decide) (fun _ => ?_) (fun c9 => absurd rfl c9)
    exact K
theorem sp_X5_sheet_b {g : GG} {h : Hp} {Post : Option Value → Hp → Prop} (hv : Inv h) (v b n : Int32) (hb : v < 0 ∨ 4 ≤ v) (K : Post (some (.int (-1000000001))) (hfm h 0)) : Sp g mX5_sheet [.ref 49, .int v, .int b, .int n] h Post := by
  show Go g mX5_sheet 0 [_, _, _, _, _] [] _ _ _
  refine ok_iload_n dX5_sheet_0 rfl rfl ?_
  refine ok_callS (M' := mX5_isSheet) (b' := (0, 0)) (As := [_]) dX5_sheet_1 iX5_isSheet w_1162 rfl (Nat.le_of_ble_eq_true rfl) ⟨Nat.le_of_ble_eq_true rfl, Nat.le_of_ble_eq_true rfl⟩ (Nat.le_of_ble_eq_true rfl) rfl rfl ?_
  refine sp_X5_isSheet _ ?_
  rw [sm_bad hb]
  refine ok_if_eq (tgt := 29) dX5_sheet_4 (by decide) (fun _ => ?_) (fun c9 => absurd rfl c9)
  refine ok_aload_n dX5_sheet_29 rfl rfl ?_
  refine ok_ldc dX5_sheet_30 w_849 ?_
  refine ok_callV (M' := mX5_finds) (b' := (0, 0)) (As := [_]) (cx := 5) dX5_sheet_32 iX5_finds w_850 (by decide) rfl (by first | exact is_lit hv (by decide) rfl | exact is_sq hv hq | exact is_row hv hq | exact is_pn hv hq (by assumption) | assumption) rfl (Nat.le_of_ble_eq_true rfl) ⟨Nat.le_of_ble_eq_true rfl, Nat.le_of_ble_eq_true rfl⟩ (Nat.le_of_ble_eq_true rfl) rfl rfl ?_
  refine sp_X5_finds hv (k := 0) (by decide) (by decide) ?_
  refine ok_ireturn dX5_sheet_35 rfl rfl ?_
  first | exact K | (simp only [↓reduceIte] at K; exact K)
theorem sp_X5_sheet_w {g : GG} {h : Hp} {Post : Option Value → Hp → Prop} (hv : Inv h) {s : Nat} (hs : s < 4) {b : Int32} (n : Int32) (hb : ¬ Wb b) (K : Post (some (.int (-1000000001))) (hfm h 0)) : Sp g mX5_sheet [.ref 49, .int (nI s), .int b, .int n] h Post := by
  show Go g mX5_sheet 0 [_, _, _, _, _] [] _ _ _
  refine ok_iload_n dX5_sheet_0 rfl rfl ?_
  refine ok_callS (M' := mX5_isSheet) (b' := (0, 0)) (As := [_]) dX5_sheet_1 iX5_isSheet w_1162 rfl (Nat.le_of_ble_eq_true rfl) ⟨Nat.le_of_ble_eq_true rfl, Nat.le_of_ble_eq_true rfl⟩ (Nat.le_of_ble_eq_true rfl) rfl rfl ?_
  refine sp_X5_isSheet _ ?_
  rw [sm_ok s hs]
  refine ok_if_eq (tgt := 29) dX5_sheet_4 (by decide) (fun c9 => absurd c9 (by decide)) (fun _ => ?_)
  refine ok_iload_n dX5_sheet_7 rfl rfl ?_
  refine ok_if_eq (tgt := 36) dX5_sheet_8 (by decide) (fun c9 => absurd c9 (fun e => hb (Or.inl e))) (fun _ => ?_)
  refine ok_iload_n dX5_sheet_11 rfl rfl ?_
  refine ok_bipush (v := 8) dX5_sheet_12 (by decide) ?_
  refine ok_icmp_eq (tgt := 36) dX5_sheet_14 (by decide) (fun c9 => absurd c9 (fun e => hb (Or.inr (Or.inl e)))) (fun _ => ?_)
  refine ok_iload_n dX5_sheet_17 rfl rfl ?_
  refine ok_bipush (v := 16) dX5_sheet_18 (by decide) ?_
  refine ok_icmp_eq (tgt := 36) dX5_sheet_20 (by decide) (fun c9 => absurd c9 (fun e => hb (Or.inr (Or.inr (Or.inl e))))) (fun _ => ?_)
  refine ok_iload_n dX5_sheet_23 rfl rfl ?_
  refine ok_bipush (v := 64) dX5_sheet_24 (by decide) ?_
  refine ok_icmp_eq (tgt := 36) dX5_sheet_26 (by decide) (fun c9 => absurd c9 (fun e => hb (Or.inr (Or.inr (Or.inr e))))) (fun _ => ?_)
  refine ok_aload_n dX5_sheet_29 rfl rfl ?_
  refine ok_ldc dX5_sheet_30 w_849 ?_
  refine ok_callV (M' := mX5_finds) (b' := (0, 0)) (As := [_]) (cx := 5) dX5_sheet_32 iX5_finds w_850 (by decide) rfl (by first | exact is_lit hv (by decide) rfl | exact is_sq hv hq | exact is_row hv hq | exact is_pn hv hq (by assumption) | assumption) rfl (Nat.le_of_ble_eq_true rfl) ⟨Nat.le_of_ble_eq_true rfl, Nat.le_of_ble_eq_true rfl⟩ (Nat.le_of_ble_eq_true rfl) rfl rfl ?_
  refine sp_X5_finds hv (k := 0) (by decide) (by decide) ?_
  refine ok_ireturn dX5_sheet_35 rfl rfl ?_
  first | exact K | (simp only [↓reduceIte] at K; exact K)
theorem sp_X5_sheet_n {g : GG} {h : Hp} {Post : Option Value → Hp → Prop} (hv : Inv h) {s : Nat} (hs : s < 4) {b n : Int32} (hb : Wb b) (hn : n < 0) (K : Post (some (.int (-1000000007))) (hfm h 6)) : Sp g mX5_sheet [.ref 49, .int (nI s), .int b, .int n] h Post := by
  show Go g mX5_sheet 0 [_, _, _, _, _] [] _ _ _
  refine ok_iload_n dX5_sheet_0 rfl rfl ?_
  refine ok_callS (M' := mX5_isSheet) (b' := (0, 0)) (As := [_]) dX5_sheet_1 iX5_isSheet w_1162 rfl (Nat.le_of_ble_eq_true rfl) ⟨Nat.le_of_ble_eq_true rfl, Nat.le_of_ble_eq_true rfl⟩ (Nat.le_of_ble_eq_true rfl) rfl rfl ?_
  refine sp_X5_isSheet _ ?_
  rw [sm_ok s hs]
  refine ok_if_eq (tgt := 29) dX5_sheet_4 (by decide) (fun c9 => absurd c9 (by decide)) (fun _ => ?_)
  refine lp_X5_sheet_7 hb ?_
  refine ok_iload_n dX5_sheet_36 rfl rfl ?_
  refine ok_if_ge (tgt := 47) dX5_sheet_37 (by decide) (fun c9 => absurd c9 (i_nle.mpr hn)) (fun _ => ?_)
  refine ok_aload_n dX5_sheet_40 rfl rfl ?_
  refine ok_ldc dX5_sheet_41 w_1062 ?_
  refine ok_callV (M' := mX5_finds) (b' := (0, 0)) (As := [_]) (cx := 5) dX5_sheet_43 iX5_finds w_850 (by decide) rfl (by first | exact is_lit hv (by decide) rfl | exact is_sq hv hq | exact is_row hv hq | exact is_pn hv hq (by assumption) | assumption) rfl (Nat.le_of_ble_eq_true rfl) ⟨Nat.le_of_ble_eq_true rfl, Nat.le_of_ble_eq_true rfl⟩ (Nat.le_of_ble_eq_true rfl) rfl rfl ?_
  refine sp_X5_finds hv (k := 6) (by decide) (by decide) ?_
  refine ok_ireturn dX5_sheet_46 rfl rfl ?_
  first | exact K | (simp only [↓reduceIte] at K; exact K)
theorem sp_X5_sheet_g {g : GG} {h : Hp} {Post : Option Value → Hp → Prop} (hv : Inv h) {s : Nat} (hs : s < 4) {b n : Int32} (hb : Wb b) (hn : ¬ n < 0) (h40 : 40 < n) (K : Post (some (.int (-1000000001))) (hfm h 0)) : Sp g mX5_sheet [.ref 49, .int (nI s), .int b, .int n] h Post := by
  show Go g mX5_sheet 0 [_, _, _, _, _] [] _ _ _
  refine ok_iload_n dX5_sheet_0 rfl rfl ?_
  refine ok_callS (M' := mX5_isSheet) (b' := (0, 0)) (As := [_]) dX5_sheet_1 iX5_isSheet w_1162 rfl (Nat.le_of_ble_eq_true rfl) ⟨Nat.le_of_ble_eq_true rfl, Nat.le_of_ble_eq_true rfl⟩ (Nat.le_of_ble_eq_true rfl) rfl rfl ?_
  refine sp_X5_isSheet _ ?_
  rw [sm_ok s hs]
  refine ok_if_eq (tgt := 29) dX5_sheet_4 (by decide) (fun c9 => absurd c9 (by decide)) (fun _ => ?_)
  refine lp_X5_sheet_7 hb ?_
  refine ok_iload_n dX5_sheet_36 rfl rfl ?_
  refine ok_if_ge (tgt := 47) dX5_sheet_37 (by decide) (fun _ => ?_) (fun c9 => absurd (i_nlt.mp hn) c9)
  refine ok_iload_n dX5_sheet_47 rfl rfl ?_
  refine ok_bipush (v := 40) dX5_sheet_48 (by decide) ?_
  refine ok_icmp_le (tgt := 60) dX5_sheet_50 (by decide) (fun c9 => absurd c9 (i_nle.mpr h40)) (fun _ => ?_)
  refine ok_aload_n dX5_sheet_53 rfl rfl ?_
  refine ok_ldc dX5_sheet_54 w_849 ?_
  refine ok_callV (M' := mX5_finds) (b' := (0, 0)) (As := [_]) (cx := 5) dX5_sheet_56 iX5_finds w_850 (by decide) rfl (by first | exact is_lit hv (by decide) rfl | exact is_sq hv hq | exact is_row hv hq | exact is_pn hv hq (by assumption) | assumption) rfl (Nat.le_of_ble_eq_true rfl) ⟨Nat.le_of_ble_eq_true rfl, Nat.le_of_ble_eq_true rfl⟩ (Nat.le_of_ble_eq_true rfl) rfl rfl ?_
  refine sp_X5_finds hv (k := 0) (by decide) (by decide) ?_
  refine ok_ireturn dX5_sheet_59 rfl rfl ?_
  first | exact K | (simp only [↓reduceIte] at K; exact K)
theorem lp_X5_sheet_85 {g : GG} {h0 : Hp} {Post : Option Value → Hp → Prop} (hv0 : Inv h0) {s : Nat} (hs : s < 4) {x2 : Option Value} {x3 : Int32} (K : Post (some (.int (hI h0 57 s))) (zS h0 s 40)) : ∀ (k i : Nat), i + k = 40 → Go g mX5_sheet 85 [some (.ref 49), some (.int (nI s)), x2, some (.int x3), some (.int (nI i))] [] (zS h0 s i) (0, 0) Post := by
  intro k
  induction k with
  | zero =>
    intro i  hik 
    obtain rfl : i = 40 := by omega
    have hv : Inv (zS h0 s 40) := hv0
    refine ok_iload dX5_sheet_85 rfl ?_
    refine ok_bipush (v := 40) dX5_sheet_87 (by decide) ?_
    refine ok_icmp_ge (tgt := 111) dX5_sheet_89 (by decide) (fun _ => ?_) (fun c9 => absurd (by decide) c9)
    refine ok_aload_n dX5_sheet_111 rfl rfl ?_
    refine ok_getR dX5_sheet_112 f_X5_31 (by first | exact is_lit hv (by decide) rfl | exact is_sq hv hq | exact is_row hv hq | exact is_pn hv hq (by assumption) | assumption) rfl (by first | exact rf hv rfl | exact rf_row hv hq | assumption) ?_
    refine ok_iload_n dX5_sheet_115 rfl rfl ?_
    refine ok_iaload dX5_sheet_116 (is_lit hv (by decide) rfl) (vp_in_nI hs (by decide)) ?_
    rw [nI_clamp (by omega)]
    refine ok_ireturn dX5_sheet_117 rfl rfl ?_
    exact K
  | succ k ih =>
    intro i  hik 
    have hi : i < 40 := by omega
    have hv : Inv (zS h0 s i) := hv0
    refine ok_iload dX5_sheet_85 rfl ?_
    refine ok_bipush (v := 40) dX5_sheet_87 (by decide) ?_
    refine ok_icmp_ge (tgt := 111) dX5_sheet_89 (by decide) (fun c9 => absurd c9 (nI_ge hi (by decide))) (fun _ => ?_)
    refine ok_aload_n dX5_sheet_92 rfl rfl ?_
    refine ok_getR dX5_sheet_93 f_X5_34 (by first | exact is_lit hv (by decide) rfl | exact is_sq hv hq | exact is_row hv hq | exact is_pn hv hq (by assumption) | assumption) rfl (by first | exact rf hv rfl | exact rf_row hv hq | assumption) ?_
    refine ok_bipush (v := 40) dX5_sheet_96 (by decide) ?_
    refine ok_iload_n dX5_sheet_98 rfl rfl ?_
    refine ok_imul dX5_sheet_99 ?_
    refine ok_iload dX5_sheet_100 rfl ?_
    refine ok_iadd dX5_sheet_102 ?_
    rw [ix40 s hs i (by omega)]
    refine ok_lconst (v := 0) dX5_sheet_103 (by decide) ?_
    refine ok_lastore dX5_sheet_104 (is_lit hv (by decide) rfl) (vp_in_nI (by omega) (by decide)) ?_
    refine ok_iinc (v := _ + 1) (lo' := [_, _, _, _, _]) dX5_sheet_105 rfl rfl (Nat.le_of_ble_eq_true rfl) rfl rfl ?_
    refine ok_goto (tgt := 85) dX5_sheet_108 (by decide) ?_
    rw [nI_1, nI_clamp (by omega), zS_s]
    exact ih (i + 1) (by omega)
theorem sp_X5_sheet {g : GG} {h : Hp} {Post : Option Value → Hp → Prop} (hv : Inv h) {s : Nat} (hs : s < 4) {b n : Int32} (hb : Wb b) (hn : ¬ n < 0) (h40 : ¬ 40 < n) (K : Post (some (.int (if b = 0 then 0 else n))) (zS (uI (uI h 56 s b) 57 s (if b = 0 then 0 else n)) s 40)) : Sp g mX5_sheet [.ref 49, .int (nI s), .int b, .int n] h Post := by
  show Go g mX5_sheet 0 [_, _, _, _, _] [] _ _ _
  refine ok_iload_n dX5_sheet_0 rfl rfl ?_
  refine ok_callS (M' := mX5_isSheet) (b' := (0, 0)) (As := [_]) dX5_sheet_1 iX5_isSheet w_1162 rfl (Nat.le_of_ble_eq_true rfl) ⟨Nat.le_of_ble_eq_true rfl, Nat.le_of_ble_eq_true rfl⟩ (Nat.le_of_ble_eq_true rfl) rfl rfl ?_
  refine sp_X5_isSheet _ ?_
  rw [sm_ok s hs]
  refine ok_if_eq (tgt := 29) dX5_sheet_4 (by decide) (fun c9 => absurd c9 (by decide)) (fun _ => ?_)
  refine lp_X5_sheet_7 hb ?_
  refine ok_iload_n dX5_sheet_36 rfl rfl ?_
  refine ok_if_ge (tgt := 47) dX5_sheet_37 (by decide) (fun _ => ?_) (fun c9 => absurd (i_nlt.mp hn) c9)
  refine ok_iload_n dX5_sheet_47 rfl rfl ?_
  refine ok_bipush (v := 40) dX5_sheet_48 (by decide) ?_
  refine ok_icmp_le (tgt := 60) dX5_sheet_50 (by decide) (fun _ => ?_) (fun c9 => absurd (i_nlt.mp h40) c9)
  refine ok_aload_n dX5_sheet_60 rfl rfl ?_
  refine ok_getR dX5_sheet_61 f_X5_28 (by first | exact is_lit hv (by decide) rfl | exact is_sq hv hq | exact is_row hv hq | exact is_pn hv hq (by assumption) | assumption) rfl (by first | exact rf hv rfl | exact rf_row hv hq | assumption) ?_
  refine ok_iload_n dX5_sheet_64 rfl rfl ?_
  refine ok_iload_n dX5_sheet_65 rfl rfl ?_
  refine ok_iastore dX5_sheet_66 (is_lit hv (by decide) rfl) (vp_in_nI hs (by decide)) ?_
  rw [nI_clamp (by omega)]
  refine ok_aload_n dX5_sheet_67 rfl rfl ?_
  refine ok_getR dX5_sheet_68 f_X5_31 (by first | exact is_lit hv (by decide) rfl | exact is_sq hv hq | exact is_row hv hq | exact is_pn hv hq (by assumption) | assumption) rfl (by first | exact rf hv rfl | exact rf_row hv hq | assumption) ?_
  refine ok_iload_n dX5_sheet_71 rfl rfl ?_
  refine ok_iload_n dX5_sheet_72 rfl rfl ?_
  refine ok_if_ne (tgt := 80) dX5_sheet_73 (by decide) (fun c_73 => ?_) (fun c_73 => ?_)
  · refine ok_iload_n dX5_sheet_80 rfl rfl ?_
    refine ok_iastore dX5_sheet_81 (is_lit hv (by decide) rfl) (vp_in_nI hs (by decide)) ?_
    rw [nI_clamp (by omega)]
    refine ok_iconst (v := 0) dX5_sheet_82 (by decide) ?_
    refine ok_istore (lo' := [_, _, _, _, _]) dX5_sheet_83 (Nat.le_of_ble_eq_true rfl) rfl rfl ?_
    have e := fun h9 v9 => lp_X5_sheet_85 (g := g) (Post := Post) (h0 := h9) (s := s) v9 hs (x2 := some (.int b)) (x3 := n)
    first
      | (rw [if_neg c_73] at K; have e := e (uI (uI h 56 s b) 57 s n) hv (by rw [at_uI]; exact K) 40 0 (by omega); rw [zS_0] at e; exact e)
      | (rw [if_pos c_73] at K; have e := e (uI (uI h 56 s b) 57 s 0) hv (by rw [at_uI]; exact K) 40 0 (by omega); rw [zS_0] at e; exact e)
  · refine ok_iconst (v := 0) dX5_sheet_76 (by decide) ?_
    refine ok_goto (tgt := 81) dX5_sheet_77 (by decide) ?_
    refine ok_iastore dX5_sheet_81 (is_lit hv (by decide) rfl) (vp_in_nI hs (by decide)) ?_
    rw [nI_clamp (by omega)]
    refine ok_iconst (v := 0) dX5_sheet_82 (by decide) ?_
    refine ok_istore (lo' := [_, _, _, _, _]) dX5_sheet_83 (Nat.le_of_ble_eq_true rfl) rfl rfl ?_
    have e := fun h9 v9 => lp_X5_sheet_85 (g := g) (Post := Post) (h0 := h9) (s := s) v9 hs (x2 := some (.int b)) (x3 := n)
    first
      | (rw [if_neg c_73] at K; have e := e (uI (uI h 56 s b) 57 s n) hv (by rw [at_uI]; exact K) 40 0 (by omega); rw [zS_0] at e; exact e)
      | (rw [if_pos c_73] at K; have e := e (uI (uI h 56 s b) 57 s 0) hv (by rw [at_uI]; exact K) 40 0 (by omega); rw [zS_0] at e; exact e)
theorem sp_X5_write_b {g : GG} {h : Hp} {Post : Option Value → Hp → Prop} (hv : Inv h) (v i : Int32) (x : Int64) (hb : v < 0 ∨ 4 ≤ v) (K : Post (some (.long (Int32.toInt64 (-1000000001)))) (hfm h 0)) : Sp g mX5_write [.ref 49, .int v, .int i, .long x] h Post := by
  show Go g mX5_write 0 [_, _, _, _, _, _, _] [] _ _ _
  refine ok_iload_n dX5_write_0 rfl rfl ?_
  refine ok_callS (M' := mX5_isSheet) (b' := (0, 0)) (As := [_]) dX5_write_1 iX5_isSheet w_1162 rfl (Nat.le_of_ble_eq_true rfl) ⟨Nat.le_of_ble_eq_true rfl, Nat.le_of_ble_eq_true rfl⟩ (Nat.le_of_ble_eq_true rfl) rfl rfl ?_
  refine sp_X5_isSheet _ ?_
  rw [sm_bad hb]
  refine ok_if_ne (tgt := 15) dX5_write_4 (by decide) (fun c9 => absurd c9 (fun c => c rfl)) (fun _ => ?_)
  refine ok_aload_n dX5_write_7 rfl rfl ?_
  refine ok_ldc dX5_write_8 w_849 ?_
  refine ok_callV (M' := mX5_finds) (b' := (0, 0)) (As := [_]) (cx := 5) dX5_write_10 iX5_finds w_850 (by decide) rfl (by first | exact is_lit hv (by decide) rfl | exact is_sq hv hq | exact is_row hv hq | exact is_pn hv hq (by assumption) | assumption) rfl (Nat.le_of_ble_eq_true rfl) ⟨Nat.le_of_ble_eq_true rfl, Nat.le_of_ble_eq_true rfl⟩ (Nat.le_of_ble_eq_true rfl) rfl rfl ?_
  refine sp_X5_finds hv (k := 0) (by decide) (by decide) ?_
  refine ok_i2l dX5_write_13 ?_
  refine ok_lreturn dX5_write_14 rfl ?_
  first | exact K | (simp only [↓reduceIte] at K; exact K)
theorem sp_X5_write_m {g : GG} {h : Hp} {Post : Option Value → Hp → Prop} (hv : Inv h) {s : Nat} (hs : s < 4) {b : Int32} (eb : hI h 56 s = b) (hm : b = 0) (i : Int32) (x : Int64) (K : Post (some (.long (Int32.toInt64 (-1000000006)))) (hfm h 5)) : Sp g mX5_write [.ref 49, .int (nI s), .int i, .long x] h Post := by
  show Go g mX5_write 0 [_, _, _, _, _, _, _] [] _ _ _
  refine ok_iload_n dX5_write_0 rfl rfl ?_
  refine ok_callS (M' := mX5_isSheet) (b' := (0, 0)) (As := [_]) dX5_write_1 iX5_isSheet w_1162 rfl (Nat.le_of_ble_eq_true rfl) ⟨Nat.le_of_ble_eq_true rfl, Nat.le_of_ble_eq_true rfl⟩ (Nat.le_of_ble_eq_true rfl) rfl rfl ?_
  refine sp_X5_isSheet _ ?_
  rw [sm_ok s hs]
  refine ok_if_ne (tgt := 15) dX5_write_4 (by decide) (fun _ => ?_) (fun c9 => absurd c9 (by decide))
  refine ok_aload_n dX5_write_15 rfl rfl ?_
  refine ok_getR dX5_write_16 f_X5_28 (by first | exact is_lit hv (by decide) rfl | exact is_sq hv hq | exact is_row hv hq | exact is_pn hv hq (by assumption) | assumption) rfl (by first | exact rf hv rfl | exact rf_row hv hq | assumption) ?_
  refine ok_iload_n dX5_write_19 rfl rfl ?_
  refine ok_iaload dX5_write_20 (is_lit hv (by decide) rfl) (vp_in_nI hs (by decide)) ?_
  rw [nI_clamp (by omega)]
  rw [eb]
  refine ok_if_ne (tgt := 33) dX5_write_21 (by decide) (fun c9 => absurd c9 (fun c => c hm)) (fun _ => ?_)
  refine ok_aload_n dX5_write_24 rfl rfl ?_
  refine ok_ldcw dX5_write_25 w_1169 ?_
  refine ok_callV (M' := mX5_finds) (b' := (0, 0)) (As := [_]) (cx := 5) dX5_write_28 iX5_finds w_850 (by decide) rfl (by first | exact is_lit hv (by decide) rfl | exact is_sq hv hq | exact is_row hv hq | exact is_pn hv hq (by assumption) | assumption) rfl (Nat.le_of_ble_eq_true rfl) ⟨Nat.le_of_ble_eq_true rfl, Nat.le_of_ble_eq_true rfl⟩ (Nat.le_of_ble_eq_true rfl) rfl rfl ?_
  refine sp_X5_finds hv (k := 5) (by decide) (by decide) ?_
  refine ok_i2l dX5_write_31 ?_
  refine ok_lreturn dX5_write_32 rfl ?_
  first | exact K | (simp only [↓reduceIte] at K; exact K)
theorem sp_X5_write_w {g : GG} {h : Hp} {Post : Option Value → Hp → Prop} (hv : Inv h) {s : Nat} (hs : s < 4) {b : Int32} (eb : hI h 56 s = b) (hm : ¬ b = 0) {z : Nat} (hz : z ≤ 40) (ez : hI h 57 s = nI z) {i : Int32} (hb : i < 0 ∨ nI z ≤ i) (x : Int64) (K : Post (some (.long (Int32.toInt64 (-1000000001)))) (hfm h 0)) : Sp g mX5_write [.ref 49, .int (nI s), .int i, .long x] h Post := by
  show Go g mX5_write 0 [_, _, _, _, _, _, _] [] _ _ _
  refine ok_iload_n dX5_write_0 rfl rfl ?_
  refine ok_callS (M' := mX5_isSheet) (b' := (0, 0)) (As := [_]) dX5_write_1 iX5_isSheet w_1162 rfl (Nat.le_of_ble_eq_true rfl) ⟨Nat.le_of_ble_eq_true rfl, Nat.le_of_ble_eq_true rfl⟩ (Nat.le_of_ble_eq_true rfl) rfl rfl ?_
  refine sp_X5_isSheet _ ?_
  rw [sm_ok s hs]
  refine ok_if_ne (tgt := 15) dX5_write_4 (by decide) (fun _ => ?_) (fun c9 => absurd c9 (by decide))
  refine ok_aload_n dX5_write_15 rfl rfl ?_
  refine ok_getR dX5_write_16 f_X5_28 (by first | exact is_lit hv (by decide) rfl | exact is_sq hv hq | exact is_row hv hq | exact is_pn hv hq (by assumption) | assumption) rfl (by first | exact rf hv rfl | exact rf_row hv hq | assumption) ?_
  refine ok_iload_n dX5_write_19 rfl rfl ?_
  refine ok_iaload dX5_write_20 (is_lit hv (by decide) rfl) (vp_in_nI hs (by decide)) ?_
  rw [nI_clamp (by omega)]
  rw [eb]
  refine ok_if_ne (tgt := 33) dX5_write_21 (by decide) (fun _ => ?_) (fun c9 => absurd c9 hm)
  refine ok_iload_n dX5_write_33 rfl rfl ?_
  refine ok_iconst (v := 0) dX5_write_34 (by decide) ?_
  refine ok_aload_n dX5_write_35 rfl rfl ?_
  refine ok_getR dX5_write_36 f_X5_31 (by first | exact is_lit hv (by decide) rfl | exact is_sq hv hq | exact is_row hv hq | exact is_pn hv hq (by assumption) | assumption) rfl (by first | exact rf hv rfl | exact rf_row hv hq | assumption) ?_
  refine ok_iload_n dX5_write_39 rfl rfl ?_
  refine ok_iaload dX5_write_40 (is_lit hv (by decide) rfl) (vp_in_nI hs (by decide)) ?_
  rw [nI_clamp (by omega)]
  rw [ez]
  refine ok_iconst (v := 1) dX5_write_41 (by decide) ?_
  refine ok_isub dX5_write_42 ?_
  refine ok_callS (M' := mX5_in) (b' := (0, 0)) (As := [_, _, _]) dX5_write_43 iX5_in w_846 rfl (Nat.le_of_ble_eq_true rfl) ⟨Nat.le_of_ble_eq_true rfl, Nat.le_of_ble_eq_true rfl⟩ (Nat.le_of_ble_eq_true rfl) rfl rfl ?_
  refine sp_X5_in _ _ _ ?_
  rw [sz_bad hz hb]
  refine ok_if_ne (tgt := 57) dX5_write_46 (by decide) (fun c9 => absurd c9 (fun c => c rfl)) (fun _ => ?_)
  refine ok_aload_n dX5_write_49 rfl rfl ?_
  refine ok_ldc dX5_write_50 w_849 ?_
  refine ok_callV (M' := mX5_finds) (b' := (0, 0)) (As := [_]) (cx := 5) dX5_write_52 iX5_finds w_850 (by decide) rfl (by first | exact is_lit hv (by decide) rfl | exact is_sq hv hq | exact is_row hv hq | exact is_pn hv hq (by assumption) | assumption) rfl (Nat.le_of_ble_eq_true rfl) ⟨Nat.le_of_ble_eq_true rfl, Nat.le_of_ble_eq_true rfl⟩ (Nat.le_of_ble_eq_true rfl) rfl rfl ?_
  refine sp_X5_finds hv (k := 0) (by decide) (by decide) ?_
  refine ok_i2l dX5_write_55 ?_
  refine ok_lreturn dX5_write_56 rfl ?_
  first | exact K | (simp only [↓reduceIte] at K; exact K)
theorem sp_X5_write {g : GG} {h : Hp} {Post : Option Value → Hp → Prop} (hv : Inv h) {s : Nat} (hs : s < 4) {b : Int32} (eb : hI h 56 s = b) (hm : ¬ b = 0) {z : Nat} (hz : z ≤ 40) (ez : hI h 57 s = nI z) {i : Nat} (hi : i < z) (x : Int64) (K : Post (some (.long (hL h 58 (40 * s + i)))) (uL h 58 (40 * s + i) (w_nar b x))) : Sp g mX5_write [.ref 49, .int (nI s), .int (nI i), .long x] h Post := by
  show Go g mX5_write 0 [_, _, _, _, _, _, _] [] _ _ _
  refine ok_iload_n dX5_write_0 rfl rfl ?_
  refine ok_callS (M' := mX5_isSheet) (b' := (0, 0)) (As := [_]) dX5_write_1 iX5_isSheet w_1162 rfl (Nat.le_of_ble_eq_true rfl) ⟨Nat.le_of_ble_eq_true rfl, Nat.le_of_ble_eq_true rfl⟩ (Nat.le_of_ble_eq_true rfl) rfl rfl ?_
  refine sp_X5_isSheet _ ?_
  rw [sm_ok s hs]
  refine ok_if_ne (tgt := 15) dX5_write_4 (by decide) (fun _ => ?_) (fun c9 => absurd c9 (by decide))
  refine ok_aload_n dX5_write_15 rfl rfl ?_
  refine ok_getR dX5_write_16 f_X5_28 (by first | exact is_lit hv (by decide) rfl | exact is_sq hv hq | exact is_row hv hq | exact is_pn hv hq (by assumption) | assumption) rfl (by first | exact rf hv rfl | exact rf_row hv hq | assumption) ?_
  refine ok_iload_n dX5_write_19 rfl rfl ?_
  refine ok_iaload dX5_write_20 (is_lit hv (by decide) rfl) (vp_in_nI hs (by decide)) ?_
  rw [nI_clamp (by omega)]
  rw [eb]
  refine ok_if_ne (tgt := 33) dX5_write_21 (by decide) (fun _ => ?_) (fun c9 => absurd c9 hm)
  refine ok_iload_n dX5_write_33 rfl rfl ?_
  refine ok_iconst (v := 0) dX5_write_34 (by decide) ?_
  refine ok_aload_n dX5_write_35 rfl rfl ?_
  refine ok_getR dX5_write_36 f_X5_31 (by first | exact is_lit hv (by decide) rfl | exact is_sq hv hq | exact is_row hv hq | exact is_pn hv hq (by assumption) | assumption) rfl (by first | exact rf hv rfl | exact rf_row hv hq | assumption) ?_
  refine ok_iload_n dX5_write_39 rfl rfl ?_
  refine ok_iaload dX5_write_40 (is_lit hv (by decide) rfl) (vp_in_nI hs (by decide)) ?_
  rw [nI_clamp (by omega)]
  rw [ez]
  refine ok_iconst (v := 1) dX5_write_41 (by decide) ?_
  refine ok_isub dX5_write_42 ?_
  refine ok_callS (M' := mX5_in) (b' := (0, 0)) (As := [_, _, _]) dX5_write_43 iX5_in w_846 rfl (Nat.le_of_ble_eq_true rfl) ⟨Nat.le_of_ble_eq_true rfl, Nat.le_of_ble_eq_true rfl⟩ (Nat.le_of_ble_eq_true rfl) rfl rfl ?_
  refine sp_X5_in _ _ _ ?_
  rw [sz_ok hz hi]
  refine ok_if_ne (tgt := 57) dX5_write_46 (by decide) (fun _ => ?_) (fun c9 => absurd c9 (by decide))
  refine ok_aload_n dX5_write_57 rfl rfl ?_
  refine ok_getR dX5_write_58 f_X5_34 (by first | exact is_lit hv (by decide) rfl | exact is_sq hv hq | exact is_row hv hq | exact is_pn hv hq (by assumption) | assumption) rfl (by first | exact rf hv rfl | exact rf_row hv hq | assumption) ?_
  refine ok_bipush (v := 40) dX5_write_61 (by decide) ?_
  refine ok_iload_n dX5_write_63 rfl rfl ?_
  refine ok_imul dX5_write_64 ?_
  refine ok_iload_n dX5_write_65 rfl rfl ?_
  refine ok_iadd dX5_write_66 ?_
  rw [ix40 s hs i (by omega)]
  refine ok_laload dX5_write_67 (is_lit hv (by decide) rfl) (vp_in_nI (by omega) (by decide)) ?_
  rw [nI_clamp (by omega)]
  refine ok_lstore (lo' := [_, _, _, _, _, _, _]) dX5_write_68 (Nat.le_of_ble_eq_true rfl) rfl rfl ?_
  refine ok_aload_n dX5_write_70 rfl rfl ?_
  refine ok_getR dX5_write_71 f_X5_34 (by first | exact is_lit hv (by decide) rfl | exact is_sq hv hq | exact is_row hv hq | exact is_pn hv hq (by assumption) | assumption) rfl (by first | exact rf hv rfl | exact rf_row hv hq | assumption) ?_
  refine ok_bipush (v := 40) dX5_write_74 (by decide) ?_
  refine ok_iload_n dX5_write_76 rfl rfl ?_
  refine ok_imul dX5_write_77 ?_
  refine ok_iload_n dX5_write_78 rfl rfl ?_
  refine ok_iadd dX5_write_79 ?_
  rw [ix40 s hs i (by omega)]
  refine ok_aload_n dX5_write_80 rfl rfl ?_
  refine ok_getR dX5_write_81 f_X5_28 (by first | exact is_lit hv (by decide) rfl | exact is_sq hv hq | exact is_row hv hq | exact is_pn hv hq (by assumption) | assumption) rfl (by first | exact rf hv rfl | exact rf_row hv hq | assumption) ?_
  refine ok_iload_n dX5_write_84 rfl rfl ?_
  refine ok_iaload dX5_write_85 (is_lit hv (by decide) rfl) (vp_in_nI hs (by decide)) ?_
  rw [nI_clamp (by omega)]
  rw [eb]
  refine ok_lload_n dX5_write_86 rfl rfl ?_
  refine ok_callS (M' := mX5_narrow) (b' := (0, 0)) (As := [_, _]) dX5_write_87 iX5_narrow w_1170 rfl (Nat.le_of_ble_eq_true rfl) ⟨Nat.le_of_ble_eq_true rfl, Nat.le_of_ble_eq_true rfl⟩ (Nat.le_of_ble_eq_true rfl) rfl rfl ?_
  refine sp_X5_narrow _ _ ?_
  refine ok_lastore dX5_write_90 (is_lit hv (by decide) rfl) (vp_in_nI (by omega) (by decide)) ?_
  rw [nI_clamp (by omega)]
  refine ok_lload dX5_write_91 rfl ?_
  refine ok_lreturn dX5_write_93 rfl ?_
  first | exact K | (simp only [↓reduceIte] at K; exact K)
def w_prt (z f n : Int32) : Int32 := if f < 0 then 0 else if n < 0 then 0 else if z < n then 0 else if z - n < f then 0 else 1
theorem prt_eq {z : Nat} (hz : z ≤ 40) (f n : Int32) : w_prt (nI z) f n = w_part (nI z) f n := by
  have ez : (nI z).toInt = z := nI_toInt (by omega)
  have e0 : (0 : Int32).toInt = 0 := rfl
  have bf := f.toInt_lt
  have bn := n.toInt_lt
  unfold w_prt w_part
  by_cases h1 : f < 0
  · rw [if_pos h1, if_pos h1]
  by_cases h2 : n < 0
  · rw [if_neg h1, if_neg h1, if_pos h2, if_pos h2]
  rw [if_neg h1, if_neg h1, if_neg h2, if_neg h2]
  rw [i_lt, e0] at h1 h2
  have s1 : (nI z - n).toInt = z - n.toInt := by rw [fb_subI (by rw [ez]; omega) (by rw [ez]; omega), ez]
  have s2 : (nI z - f).toInt = z - f.toInt := by rw [fb_subI (by rw [ez]; omega) (by rw [ez]; omega), ez]
  by_cases h3 : f.toInt + n.toInt ≤ z
  · rw [if_neg (by rw [i_lt, ez]; omega), if_neg (by rw [i_lt, s1]; omega), if_neg (by rw [i_lt, ez]; omega), if_neg (by rw [i_lt, s2]; omega)]
  · have a : (if nI z < n then (0 : Int32) else if nI z - n < f then 0 else 1) = 0 := by
      split
      · rfl
      · exact if_pos (by rw [i_lt, s1]; omega)
    have b : (if nI z < f then (0 : Int32) else if nI z - f < n then 0 else 1) = 0 := by
      split
      · rfl
      · exact if_pos (by rw [i_lt, s2]; omega)
    rw [a, b]
theorem sp_X5_isPart {g : GG} {h : Hp} {Post : Option Value → Hp → Prop} (hv : Inv h) {s : Nat} (hs : s < 4) {z : Nat} (hz : z ≤ 40) (ez : hI h 57 s = nI z) (f n : Int32) (K : Post (some (.int (w_part (nI z) f n))) h) : Sp g mX5_isPart [.ref 49, .int (nI s), .int f, .int n] h Post := by
  show Go g mX5_isPart 0 [_, _, _, _] [] _ _ _
  rw [← prt_eq hz] at K
  unfold w_prt at K
  refine ok_iload_n dX5_isPart_0 rfl rfl ?_
  refine ok_if_lt (tgt := 34) dX5_isPart_1 (by decide) (fun c_1 => ?_) (fun c_1 => ?_)
  · refine ok_iconst (v := 0) dX5_isPart_34 (by decide) ?_
    refine ok_ireturn dX5_isPart_35 rfl rfl ?_
    first
      | (rw [if_pos c_1] at K; exact K)
      | (rw [if_neg c_1, if_pos c_5] at K; exact K)
      | (rw [if_neg c_1, if_neg c_5, if_pos c_15] at K; exact K)
      | (rw [if_neg c_1, if_neg c_5, if_neg c_15, if_pos c_27] at K; exact K)
      | (rw [if_neg c_1, if_neg c_5, if_neg c_15, if_neg c_27] at K; exact K)
  · refine ok_iload_n dX5_isPart_4 rfl rfl ?_
    refine ok_if_lt (tgt := 34) dX5_isPart_5 (by decide) (fun c_5 => ?_) (fun c_5 => ?_)
    · refine ok_iconst (v := 0) dX5_isPart_34 (by decide) ?_
      refine ok_ireturn dX5_isPart_35 rfl rfl ?_
      first
        | (rw [if_pos c_1] at K; exact K)
        | (rw [if_neg c_1, if_pos c_5] at K; exact K)
        | (rw [if_neg c_1, if_neg c_5, if_pos c_15] at K; exact K)
        | (rw [if_neg c_1, if_neg c_5, if_neg c_15, if_pos c_27] at K; exact K)
        | (rw [if_neg c_1, if_neg c_5, if_neg c_15, if_neg c_27] at K; exact K)
    · refine ok_iload_n dX5_isPart_8 rfl rfl ?_
      refine ok_aload_n dX5_isPart_9 rfl rfl ?_
      refine ok_getR dX5_isPart_10 f_X5_31 (by first | exact is_lit hv (by decide) rfl | exact is_sq hv hq | exact is_row hv hq | exact is_pn hv hq (by assumption) | assumption) rfl (by first | exact rf hv rfl | exact rf_row hv hq | assumption) ?_
      refine ok_iload_n dX5_isPart_13 rfl rfl ?_
      refine ok_iaload dX5_isPart_14 (is_lit hv (by decide) rfl) (vp_in_nI hs (by decide)) ?_
      rw [nI_clamp (by omega)]
      rw [ez]
      refine ok_icmp_gt (tgt := 34) dX5_isPart_15 (by decide) (fun c_15 => ?_) (fun c_15 => ?_)
      · refine ok_iconst (v := 0) dX5_isPart_34 (by decide) ?_
        refine ok_ireturn dX5_isPart_35 rfl rfl ?_
        first
          | (rw [if_pos c_1] at K; exact K)
          | (rw [if_neg c_1, if_pos c_5] at K; exact K)
          | (rw [if_neg c_1, if_neg c_5, if_pos c_15] at K; exact K)
          | (rw [if_neg c_1, if_neg c_5, if_neg c_15, if_pos c_27] at K; exact K)
          | (rw [if_neg c_1, if_neg c_5, if_neg c_15, if_neg c_27] at K; exact K)
      · refine ok_iload_n dX5_isPart_18 rfl rfl ?_
        refine ok_aload_n dX5_isPart_19 rfl rfl ?_
        refine ok_getR dX5_isPart_20 f_X5_31 (by first | exact is_lit hv (by decide) rfl | exact is_sq hv hq | exact is_row hv hq | exact is_pn hv hq (by assumption) | assumption) rfl (by first | exact rf hv rfl | exact rf_row hv hq | assumption) ?_
        refine ok_iload_n dX5_isPart_23 rfl rfl ?_
        refine ok_iaload dX5_isPart_24 (is_lit hv (by decide) rfl) (vp_in_nI hs (by decide)) ?_
        rw [nI_clamp (by omega)]
        rw [ez]
        refine ok_iload_n dX5_isPart_25 rfl rfl ?_
        refine ok_isub dX5_isPart_26 ?_
        refine ok_icmp_gt (tgt := 34) dX5_isPart_27 (by decide) (fun c_27 => ?_) (fun c_27 => ?_)
        · refine ok_iconst (v := 0) dX5_isPart_34 (by decide) ?_
          refine ok_ireturn dX5_isPart_35 rfl rfl ?_
          first
            | (rw [if_pos c_1] at K; exact K)
            | (rw [if_neg c_1, if_pos c_5] at K; exact K)
            | (rw [if_neg c_1, if_neg c_5, if_pos c_15] at K; exact K)
            | (rw [if_neg c_1, if_neg c_5, if_neg c_15, if_pos c_27] at K; exact K)
            | (rw [if_neg c_1, if_neg c_5, if_neg c_15, if_neg c_27] at K; exact K)
        · refine ok_iconst (v := 1) dX5_isPart_30 (by decide) ?_
          refine ok_goto (tgt := 35) dX5_isPart_31 (by decide) ?_
          refine ok_ireturn dX5_isPart_35 rfl rfl ?_
          first
            | (rw [if_pos c_1] at K; exact K)
            | (rw [if_neg c_1, if_pos c_5] at K; exact K)
            | (rw [if_neg c_1, if_neg c_5, if_pos c_15] at K; exact K)
            | (rw [if_neg c_1, if_neg c_5, if_neg c_15, if_pos c_27] at K; exact K)
            | (rw [if_neg c_1, if_neg c_5, if_neg c_15, if_neg c_27] at K; exact K)
theorem sp_X5_copy_b {g : GG} {h : Hp} {Post : Option Value → Hp → Prop} (hv : Inv h) (v f t o n : Int32) (hb : v < 0 ∨ 4 ≤ v) (K : Post (some (.int (-1000000001))) (hfm h 0)) : Sp g mX5_copy [.ref 49, .int v, .int f, .int t, .int o, .int n] h Post := by
  show Go g mX5_copy 0 [_, _, _, _, _, _, _] [] _ _ _
  refine ok_iload_n dX5_copy_0 rfl rfl ?_
  refine ok_callS (M' := mX5_isSheet) (b' := (0, 0)) (As := [_]) dX5_copy_1 iX5_isSheet w_1162 rfl (Nat.le_of_ble_eq_true rfl) ⟨Nat.le_of_ble_eq_true rfl, Nat.le_of_ble_eq_true rfl⟩ (Nat.le_of_ble_eq_true rfl) rfl rfl ?_
  refine sp_X5_isSheet _ ?_
  rw [sm_bad hb]
  refine ok_if_eq (tgt := 14) dX5_copy_4 (by decide) (fun _ => ?_) (fun c9 => absurd rfl c9)
  refine ok_aload_n dX5_copy_14 rfl rfl ?_
  refine ok_ldc dX5_copy_15 w_849 ?_
  refine ok_callV (M' := mX5_finds) (b' := (0, 0)) (As := [_]) (cx := 5) dX5_copy_17 iX5_finds w_850 (by decide) rfl (by first | exact is_lit hv (by decide) rfl | exact is_sq hv hq | exact is_row hv hq | exact is_pn hv hq (by assumption) | assumption) rfl (Nat.le_of_ble_eq_true rfl) ⟨Nat.le_of_ble_eq_true rfl, Nat.le_of_ble_eq_true rfl⟩ (Nat.le_of_ble_eq_true rfl) rfl rfl ?_
  refine sp_X5_finds hv (k := 0) (by decide) (by decide) ?_
  refine ok_ireturn dX5_copy_20 rfl rfl ?_
  first | exact K | (simp only [↓reduceIte] at K; exact K)
theorem sp_X5_copy_c {g : GG} {h : Hp} {Post : Option Value → Hp → Prop} (hv : Inv h) {s : Nat} (hs : s < 4) (f o n : Int32) {t : Int32} (hb : t < 0 ∨ 4 ≤ t) (K : Post (some (.int (-1000000001))) (hfm h 0)) : Sp g mX5_copy [.ref 49, .int (nI s), .int f, .int t, .int o, .int n] h Post := by
  show Go g mX5_copy 0 [_, _, _, _, _, _, _] [] _ _ _
  refine ok_iload_n dX5_copy_0 rfl rfl ?_
  refine ok_callS (M' := mX5_isSheet) (b' := (0, 0)) (As := [_]) dX5_copy_1 iX5_isSheet w_1162 rfl (Nat.le_of_ble_eq_true rfl) ⟨Nat.le_of_ble_eq_true rfl, Nat.le_of_ble_eq_true rfl⟩ (Nat.le_of_ble_eq_true rfl) rfl rfl ?_
  refine sp_X5_isSheet _ ?_
  rw [sm_ok s hs]
  refine ok_if_eq (tgt := 14) dX5_copy_4 (by decide) (fun c9 => absurd c9 (by decide)) (fun _ => ?_)
  refine ok_iload_n dX5_copy_7 rfl rfl ?_
  refine ok_callS (M' := mX5_isSheet) (b' := (0, 0)) (As := [_]) dX5_copy_8 iX5_isSheet w_1162 rfl (Nat.le_of_ble_eq_true rfl) ⟨Nat.le_of_ble_eq_true rfl, Nat.le_of_ble_eq_true rfl⟩ (Nat.le_of_ble_eq_true rfl) rfl rfl ?_
  refine sp_X5_isSheet _ ?_
  rw [sm_bad hb]
  refine ok_if_ne (tgt := 21) dX5_copy_11 (by decide) (fun c9 => absurd c9 (fun c => c rfl)) (fun _ => ?_)
  refine ok_aload_n dX5_copy_14 rfl rfl ?_
  refine ok_ldc dX5_copy_15 w_849 ?_
  refine ok_callV (M' := mX5_finds) (b' := (0, 0)) (As := [_]) (cx := 5) dX5_copy_17 iX5_finds w_850 (by decide) rfl (by first | exact is_lit hv (by decide) rfl | exact is_sq hv hq | exact is_row hv hq | exact is_pn hv hq (by assumption) | assumption) rfl (Nat.le_of_ble_eq_true rfl) ⟨Nat.le_of_ble_eq_true rfl, Nat.le_of_ble_eq_true rfl⟩ (Nat.le_of_ble_eq_true rfl) rfl rfl ?_
  refine sp_X5_finds hv (k := 0) (by decide) (by decide) ?_
  refine ok_ireturn dX5_copy_20 rfl rfl ?_
  first | exact K | (simp only [↓reduceIte] at K; exact K)
theorem sp_X5_copy_m {g : GG} {h : Hp} {Post : Option Value → Hp → Prop} (hv : Inv h) {s : Nat} (hs : s < 4) {t : Nat} (ht : t < 4) {b c : Int32} (eb : hI h 56 s = b) (ec : hI h 56 t = c) (f o n : Int32) (hm : b = 0) (K : Post (some (.int (-1000000006))) (hfm h 5)) : Sp g mX5_copy [.ref 49, .int (nI s), .int f, .int (nI t), .int o, .int n] h Post := by
  show Go g mX5_copy 0 [_, _, _, _, _, _, _] [] _ _ _
  refine ok_iload_n dX5_copy_0 rfl rfl ?_
  refine ok_callS (M' := mX5_isSheet) (b' := (0, 0)) (As := [_]) dX5_copy_1 iX5_isSheet w_1162 rfl (Nat.le_of_ble_eq_true rfl) ⟨Nat.le_of_ble_eq_true rfl, Nat.le_of_ble_eq_true rfl⟩ (Nat.le_of_ble_eq_true rfl) rfl rfl ?_
  refine sp_X5_isSheet _ ?_
  rw [sm_ok s hs]
  refine ok_if_eq (tgt := 14) dX5_copy_4 (by decide) (fun c9 => absurd c9 (by decide)) (fun _ => ?_)
  refine ok_iload_n dX5_copy_7 rfl rfl ?_
  refine ok_callS (M' := mX5_isSheet) (b' := (0, 0)) (As := [_]) dX5_copy_8 iX5_isSheet w_1162 rfl (Nat.le_of_ble_eq_true rfl) ⟨Nat.le_of_ble_eq_true rfl, Nat.le_of_ble_eq_true rfl⟩ (Nat.le_of_ble_eq_true rfl) rfl rfl ?_
  refine sp_X5_isSheet _ ?_
  rw [sm_ok t ht]
  refine ok_if_ne (tgt := 21) dX5_copy_11 (by decide) (fun _ => ?_) (fun c9 => absurd c9 (by decide))
  refine ok_aload_n dX5_copy_21 rfl rfl ?_
  refine ok_getR dX5_copy_22 f_X5_28 (by first | exact is_lit hv (by decide) rfl | exact is_sq hv hq | exact is_row hv hq | exact is_pn hv hq (by assumption) | assumption) rfl (by first | exact rf hv rfl | exact rf_row hv hq | assumption) ?_
  refine ok_iload_n dX5_copy_25 rfl rfl ?_
  refine ok_iaload dX5_copy_26 (is_lit hv (by decide) rfl) (vp_in_nI hs (by decide)) ?_
  rw [nI_clamp (by omega)]
  rw [eb]
  refine ok_if_eq (tgt := 39) dX5_copy_27 (by decide) (fun _ => ?_) (fun c9 => absurd hm c9)
  refine ok_aload_n dX5_copy_39 rfl rfl ?_
  refine ok_ldcw dX5_copy_40 w_1169 ?_
  refine ok_callV (M' := mX5_finds) (b' := (0, 0)) (As := [_]) (cx := 5) dX5_copy_43 iX5_finds w_850 (by decide) rfl (by first | exact is_lit hv (by decide) rfl | exact is_sq hv hq | exact is_row hv hq | exact is_pn hv hq (by assumption) | assumption) rfl (Nat.le_of_ble_eq_true rfl) ⟨Nat.le_of_ble_eq_true rfl, Nat.le_of_ble_eq_true rfl⟩ (Nat.le_of_ble_eq_true rfl) rfl rfl ?_
  refine sp_X5_finds hv (k := 5) (by decide) (by decide) ?_
  refine ok_ireturn dX5_copy_46 rfl rfl ?_
  first | exact K | (simp only [↓reduceIte] at K; exact K)
theorem sp_X5_copy_n {g : GG} {h : Hp} {Post : Option Value → Hp → Prop} (hv : Inv h) {s : Nat} (hs : s < 4) {t : Nat} (ht : t < 4) {b c : Int32} (eb : hI h 56 s = b) (ec : hI h 56 t = c) (f o n : Int32) (hm : ¬ b = 0) (hm2 : c = 0) (K : Post (some (.int (-1000000006))) (hfm h 5)) : Sp g mX5_copy [.ref 49, .int (nI s), .int f, .int (nI t), .int o, .int n] h Post := by
  show Go g mX5_copy 0 [_, _, _, _, _, _, _] [] _ _ _
  refine ok_iload_n dX5_copy_0 rfl rfl ?_
  refine ok_callS (M' := mX5_isSheet) (b' := (0, 0)) (As := [_]) dX5_copy_1 iX5_isSheet w_1162 rfl (Nat.le_of_ble_eq_true rfl) ⟨Nat.le_of_ble_eq_true rfl, Nat.le_of_ble_eq_true rfl⟩ (Nat.le_of_ble_eq_true rfl) rfl rfl ?_
  refine sp_X5_isSheet _ ?_
  rw [sm_ok s hs]
  refine ok_if_eq (tgt := 14) dX5_copy_4 (by decide) (fun c9 => absurd c9 (by decide)) (fun _ => ?_)
  refine ok_iload_n dX5_copy_7 rfl rfl ?_
  refine ok_callS (M' := mX5_isSheet) (b' := (0, 0)) (As := [_]) dX5_copy_8 iX5_isSheet w_1162 rfl (Nat.le_of_ble_eq_true rfl) ⟨Nat.le_of_ble_eq_true rfl, Nat.le_of_ble_eq_true rfl⟩ (Nat.le_of_ble_eq_true rfl) rfl rfl ?_
  refine sp_X5_isSheet _ ?_
  rw [sm_ok t ht]
  refine ok_if_ne (tgt := 21) dX5_copy_11 (by decide) (fun _ => ?_) (fun c9 => absurd c9 (by decide))
  refine ok_aload_n dX5_copy_21 rfl rfl ?_
  refine ok_getR dX5_copy_22 f_X5_28 (by first | exact is_lit hv (by decide) rfl | exact is_sq hv hq | exact is_row hv hq | exact is_pn hv hq (by assumption) | assumption) rfl (by first | exact rf hv rfl | exact rf_row hv hq | assumption) ?_
  refine ok_iload_n dX5_copy_25 rfl rfl ?_
  refine ok_iaload dX5_copy_26 (is_lit hv (by decide) rfl) (vp_in_nI hs (by decide)) ?_
  rw [nI_clamp (by omega)]
  rw [eb]
  refine ok_if_eq (tgt := 39) dX5_copy_27 (by decide) (fun c9 => absurd c9 hm) (fun _ => ?_)
  refine ok_aload_n dX5_copy_30 rfl rfl ?_
  refine ok_getR dX5_copy_31 f_X5_28 (by first | exact is_lit hv (by decide) rfl | exact is_sq hv hq | exact is_row hv hq | exact is_pn hv hq (by assumption) | assumption) rfl (by first | exact rf hv rfl | exact rf_row hv hq | assumption) ?_
  refine ok_iload_n dX5_copy_34 rfl rfl ?_
  refine ok_iaload dX5_copy_35 (is_lit hv (by decide) rfl) (vp_in_nI ht (by decide)) ?_
  rw [nI_clamp (by omega)]
  rw [ec]
  refine ok_if_ne (tgt := 47) dX5_copy_36 (by decide) (fun c9 => absurd c9 (fun e => e hm2)) (fun _ => ?_)
  refine ok_aload_n dX5_copy_39 rfl rfl ?_
  refine ok_ldcw dX5_copy_40 w_1169 ?_
  refine ok_callV (M' := mX5_finds) (b' := (0, 0)) (As := [_]) (cx := 5) dX5_copy_43 iX5_finds w_850 (by decide) rfl (by first | exact is_lit hv (by decide) rfl | exact is_sq hv hq | exact is_row hv hq | exact is_pn hv hq (by assumption) | assumption) rfl (Nat.le_of_ble_eq_true rfl) ⟨Nat.le_of_ble_eq_true rfl, Nat.le_of_ble_eq_true rfl⟩ (Nat.le_of_ble_eq_true rfl) rfl rfl ?_
  refine sp_X5_finds hv (k := 5) (by decide) (by decide) ?_
  refine ok_ireturn dX5_copy_46 rfl rfl ?_
  first | exact K | (simp only [↓reduceIte] at K; exact K)
theorem sp_X5_copy_k {g : GG} {h : Hp} {Post : Option Value → Hp → Prop} (hv : Inv h) {s : Nat} (hs : s < 4) {t : Nat} (ht : t < 4) {b c : Int32} (eb : hI h 56 s = b) (ec : hI h 56 t = c) (f o n : Int32) (hm : ¬ b = 0) (hm2 : ¬ c = 0) (hk : ¬ b = c) (K : Post (some (.int (-1000000003))) (hfm h 2)) : Sp g mX5_copy [.ref 49, .int (nI s), .int f, .int (nI t), .int o, .int n] h Post := by
  show Go g mX5_copy 0 [_, _, _, _, _, _, _] [] _ _ _
  refine ok_iload_n dX5_copy_0 rfl rfl ?_
  refine ok_callS (M' := mX5_isSheet) (b' := (0, 0)) (As := [_]) dX5_copy_1 iX5_isSheet w_1162 rfl (Nat.le_of_ble_eq_true rfl) ⟨Nat.le_of_ble_eq_true rfl, Nat.le_of_ble_eq_true rfl⟩ (Nat.le_of_ble_eq_true rfl) rfl rfl ?_
  refine sp_X5_isSheet _ ?_
  rw [sm_ok s hs]
  refine ok_if_eq (tgt := 14) dX5_copy_4 (by decide) (fun c9 => absurd c9 (by decide)) (fun _ => ?_)
  refine ok_iload_n dX5_copy_7 rfl rfl ?_
  refine ok_callS (M' := mX5_isSheet) (b' := (0, 0)) (As := [_]) dX5_copy_8 iX5_isSheet w_1162 rfl (Nat.le_of_ble_eq_true rfl) ⟨Nat.le_of_ble_eq_true rfl, Nat.le_of_ble_eq_true rfl⟩ (Nat.le_of_ble_eq_true rfl) rfl rfl ?_
  refine sp_X5_isSheet _ ?_
  rw [sm_ok t ht]
  refine ok_if_ne (tgt := 21) dX5_copy_11 (by decide) (fun _ => ?_) (fun c9 => absurd c9 (by decide))
  refine ok_aload_n dX5_copy_21 rfl rfl ?_
  refine ok_getR dX5_copy_22 f_X5_28 (by first | exact is_lit hv (by decide) rfl | exact is_sq hv hq | exact is_row hv hq | exact is_pn hv hq (by assumption) | assumption) rfl (by first | exact rf hv rfl | exact rf_row hv hq | assumption) ?_
  refine ok_iload_n dX5_copy_25 rfl rfl ?_
  refine ok_iaload dX5_copy_26 (is_lit hv (by decide) rfl) (vp_in_nI hs (by decide)) ?_
  rw [nI_clamp (by omega)]
  rw [eb]
  refine ok_if_eq (tgt := 39) dX5_copy_27 (by decide) (fun c9 => absurd c9 hm) (fun _ => ?_)
  refine ok_aload_n dX5_copy_30 rfl rfl ?_
  refine ok_getR dX5_copy_31 f_X5_28 (by first | exact is_lit hv (by decide) rfl | exact is_sq hv hq | exact is_row hv hq | exact is_pn hv hq (by assumption) | assumption) rfl (by first | exact rf hv rfl | exact rf_row hv hq | assumption) ?_
  refine ok_iload_n dX5_copy_34 rfl rfl ?_
  refine ok_iaload dX5_copy_35 (is_lit hv (by decide) rfl) (vp_in_nI ht (by decide)) ?_
  rw [nI_clamp (by omega)]
  rw [ec]
  refine ok_if_ne (tgt := 47) dX5_copy_36 (by decide) (fun _ => ?_) (fun c9 => absurd c9 hm2)
  refine ok_aload_n dX5_copy_47 rfl rfl ?_
  refine ok_getR dX5_copy_48 f_X5_28 (by first | exact is_lit hv (by decide) rfl | exact is_sq hv hq | exact is_row hv hq | exact is_pn hv hq (by assumption) | assumption) rfl (by first | exact rf hv rfl | exact rf_row hv hq | assumption) ?_
  refine ok_iload_n dX5_copy_51 rfl rfl ?_
  refine ok_iaload dX5_copy_52 (is_lit hv (by decide) rfl) (vp_in_nI hs (by decide)) ?_
  rw [nI_clamp (by omega)]
  rw [eb]
  refine ok_aload_n dX5_copy_53 rfl rfl ?_
  refine ok_getR dX5_copy_54 f_X5_28 (by first | exact is_lit hv (by decide) rfl | exact is_sq hv hq | exact is_row hv hq | exact is_pn hv hq (by assumption) | assumption) rfl (by first | exact rf hv rfl | exact rf_row hv hq | assumption) ?_
  refine ok_iload_n dX5_copy_57 rfl rfl ?_
  refine ok_iaload dX5_copy_58 (is_lit hv (by decide) rfl) (vp_in_nI ht (by decide)) ?_
  rw [nI_clamp (by omega)]
  rw [ec]
  refine ok_icmp_eq (tgt := 69) dX5_copy_59 (by decide) (fun c9 => absurd c9 hk) (fun _ => ?_)
  refine ok_aload_n dX5_copy_62 rfl rfl ?_
  refine ok_ldc dX5_copy_63 w_905 ?_
  refine ok_callV (M' := mX5_finds) (b' := (0, 0)) (As := [_]) (cx := 5) dX5_copy_65 iX5_finds w_850 (by decide) rfl (by first | exact is_lit hv (by decide) rfl | exact is_sq hv hq | exact is_row hv hq | exact is_pn hv hq (by assumption) | assumption) rfl (Nat.le_of_ble_eq_true rfl) ⟨Nat.le_of_ble_eq_true rfl, Nat.le_of_ble_eq_true rfl⟩ (Nat.le_of_ble_eq_true rfl) rfl rfl ?_
  refine sp_X5_finds hv (k := 2) (by decide) (by decide) ?_
  refine ok_ireturn dX5_copy_68 rfl rfl ?_
  first | exact K | (simp only [↓reduceIte] at K; exact K)
theorem sp_X5_copy_p {g : GG} {h : Hp} {Post : Option Value → Hp → Prop} (hv : Inv h) {s : Nat} (hs : s < 4) {t : Nat} (ht : t < 4) {b c : Int32} (eb : hI h 56 s = b) (ec : hI h 56 t = c) {zs zt : Nat} (l1 : zs ≤ 40) (l2 : zt ≤ 40) (e1 : hI h 57 s = nI zs) (e2 : hI h 57 t = nI zt) (f o n : Int32) (hm : ¬ b = 0) (hm2 : ¬ c = 0) (hk : b = c) (hp : w_part (nI zs) f n = 0) (K : Post (some (.int (-1000000001))) (hfm h 0)) : Sp g mX5_copy [.ref 49, .int (nI s), .int f, .int (nI t), .int o, .int n] h Post := by
  show Go g mX5_copy 0 [_, _, _, _, _, _, _] [] _ _ _
  refine ok_iload_n dX5_copy_0 rfl rfl ?_
  refine ok_callS (M' := mX5_isSheet) (b' := (0, 0)) (As := [_]) dX5_copy_1 iX5_isSheet w_1162 rfl (Nat.le_of_ble_eq_true rfl) ⟨Nat.le_of_ble_eq_true rfl, Nat.le_of_ble_eq_true rfl⟩ (Nat.le_of_ble_eq_true rfl) rfl rfl ?_
  refine sp_X5_isSheet _ ?_
  rw [sm_ok s hs]
  refine ok_if_eq (tgt := 14) dX5_copy_4 (by decide) (fun c9 => absurd c9 (by decide)) (fun _ => ?_)
  refine ok_iload_n dX5_copy_7 rfl rfl ?_
  refine ok_callS (M' := mX5_isSheet) (b' := (0, 0)) (As := [_]) dX5_copy_8 iX5_isSheet w_1162 rfl (Nat.le_of_ble_eq_true rfl) ⟨Nat.le_of_ble_eq_true rfl, Nat.le_of_ble_eq_true rfl⟩ (Nat.le_of_ble_eq_true rfl) rfl rfl ?_
  refine sp_X5_isSheet _ ?_
  rw [sm_ok t ht]
  refine ok_if_ne (tgt := 21) dX5_copy_11 (by decide) (fun _ => ?_) (fun c9 => absurd c9 (by decide))
  refine ok_aload_n dX5_copy_21 rfl rfl ?_
  refine ok_getR dX5_copy_22 f_X5_28 (by first | exact is_lit hv (by decide) rfl | exact is_sq hv hq | exact is_row hv hq | exact is_pn hv hq (by assumption) | assumption) rfl (by first | exact rf hv rfl | exact rf_row hv hq | assumption) ?_
  refine ok_iload_n dX5_copy_25 rfl rfl ?_
  refine ok_iaload dX5_copy_26 (is_lit hv (by decide) rfl) (vp_in_nI hs (by decide)) ?_
  rw [nI_clamp (by omega)]
  rw [eb]
  refine ok_if_eq (tgt := 39) dX5_copy_27 (by decide) (fun c9 => absurd c9 hm) (fun _ => ?_)
  refine ok_aload_n dX5_copy_30 rfl rfl ?_
  refine ok_getR dX5_copy_31 f_X5_28 (by first | exact is_lit hv (by decide) rfl | exact is_sq hv hq | exact is_row hv hq | exact is_pn hv hq (by assumption) | assumption) rfl (by first | exact rf hv rfl | exact rf_row hv hq | assumption) ?_
  refine ok_iload_n dX5_copy_34 rfl rfl ?_
  refine ok_iaload dX5_copy_35 (is_lit hv (by decide) rfl) (vp_in_nI ht (by decide)) ?_
  rw [nI_clamp (by omega)]
  rw [ec]
  refine ok_if_ne (tgt := 47) dX5_copy_36 (by decide) (fun _ => ?_) (fun c9 => absurd c9 hm2)
  refine ok_aload_n dX5_copy_47 rfl rfl ?_
  refine ok_getR dX5_copy_48 f_X5_28 (by first | exact is_lit hv (by decide) rfl | exact is_sq hv hq | exact is_row hv hq | exact is_pn hv hq (by assumption) | assumption) rfl (by first | exact rf hv rfl | exact rf_row hv hq | assumption) ?_
  refine ok_iload_n dX5_copy_51 rfl rfl ?_
  refine ok_iaload dX5_copy_52 (is_lit hv (by decide) rfl) (vp_in_nI hs (by decide)) ?_
  rw [nI_clamp (by omega)]
  rw [eb]
  refine ok_aload_n dX5_copy_53 rfl rfl ?_
  refine ok_getR dX5_copy_54 f_X5_28 (by first | exact is_lit hv (by decide) rfl | exact is_sq hv hq | exact is_row hv hq | exact is_pn hv hq (by assumption) | assumption) rfl (by first | exact rf hv rfl | exact rf_row hv hq | assumption) ?_
  refine ok_iload_n dX5_copy_57 rfl rfl ?_
  refine ok_iaload dX5_copy_58 (is_lit hv (by decide) rfl) (vp_in_nI ht (by decide)) ?_
  rw [nI_clamp (by omega)]
  rw [ec]
  refine ok_icmp_eq (tgt := 69) dX5_copy_59 (by decide) (fun _ => ?_) (fun c9 => absurd hk c9)
  refine ok_aload_n dX5_copy_69 rfl rfl ?_
  refine ok_iload_n dX5_copy_70 rfl rfl ?_
  refine ok_iload_n dX5_copy_71 rfl rfl ?_
  refine ok_iload dX5_copy_72 rfl ?_
  refine ok_callV (M' := mX5_isPart) (b' := (0, 0)) (As := [_, _, _]) (cx := 5) dX5_copy_74 iX5_isPart w_1177 (by decide) rfl (by first | exact is_lit hv (by decide) rfl | exact is_sq hv hq | exact is_row hv hq | exact is_pn hv hq (by assumption) | assumption) rfl (Nat.le_of_ble_eq_true rfl) ⟨Nat.le_of_ble_eq_true rfl, Nat.le_of_ble_eq_true rfl⟩ (Nat.le_of_ble_eq_true rfl) rfl rfl ?_
  refine sp_X5_isPart hv hs l1 e1 _ _ ?_
  rw [hp]
  refine ok_if_eq (tgt := 92) dX5_copy_77 (by decide) (fun _ => ?_) (fun c9 => absurd rfl c9)
  refine ok_aload_n dX5_copy_92 rfl rfl ?_
  refine ok_ldc dX5_copy_93 w_849 ?_
  refine ok_callV (M' := mX5_finds) (b' := (0, 0)) (As := [_]) (cx := 5) dX5_copy_95 iX5_finds w_850 (by decide) rfl (by first | exact is_lit hv (by decide) rfl | exact is_sq hv hq | exact is_row hv hq | exact is_pn hv hq (by assumption) | assumption) rfl (Nat.le_of_ble_eq_true rfl) ⟨Nat.le_of_ble_eq_true rfl, Nat.le_of_ble_eq_true rfl⟩ (Nat.le_of_ble_eq_true rfl) rfl rfl ?_
  refine sp_X5_finds hv (k := 0) (by decide) (by decide) ?_
  refine ok_ireturn dX5_copy_98 rfl rfl ?_
  first | exact K | (simp only [↓reduceIte] at K; exact K)
theorem sp_X5_copy_q {g : GG} {h : Hp} {Post : Option Value → Hp → Prop} (hv : Inv h) {s : Nat} (hs : s < 4) {t : Nat} (ht : t < 4) {b c : Int32} (eb : hI h 56 s = b) (ec : hI h 56 t = c) {zs zt : Nat} (l1 : zs ≤ 40) (l2 : zt ≤ 40) (e1 : hI h 57 s = nI zs) (e2 : hI h 57 t = nI zt) (f o n : Int32) (hm : ¬ b = 0) (hm2 : ¬ c = 0) (hk : b = c) (hp : w_part (nI zs) f n = 1) (hq : w_part (nI zt) o n = 0) (K : Post (some (.int (-1000000001))) (hfm h 0)) : Sp g mX5_copy [.ref 49, .int (nI s), .int f, .int (nI t), .int o, .int n] h Post := by
  show Go g mX5_copy 0 [_, _, _, _, _, _, _] [] _ _ _
  refine ok_iload_n dX5_copy_0 rfl rfl ?_
  refine ok_callS (M' := mX5_isSheet) (b' := (0, 0)) (As := [_]) dX5_copy_1 iX5_isSheet w_1162 rfl (Nat.le_of_ble_eq_true rfl) ⟨Nat.le_of_ble_eq_true rfl, Nat.le_of_ble_eq_true rfl⟩ (Nat.le_of_ble_eq_true rfl) rfl rfl ?_
  refine sp_X5_isSheet _ ?_
  rw [sm_ok s hs]
  refine ok_if_eq (tgt := 14) dX5_copy_4 (by decide) (fun c9 => absurd c9 (by decide)) (fun _ => ?_)
  refine ok_iload_n dX5_copy_7 rfl rfl ?_
  refine ok_callS (M' := mX5_isSheet) (b' := (0, 0)) (As := [_]) dX5_copy_8 iX5_isSheet w_1162 rfl (Nat.le_of_ble_eq_true rfl) ⟨Nat.le_of_ble_eq_true rfl, Nat.le_of_ble_eq_true rfl⟩ (Nat.le_of_ble_eq_true rfl) rfl rfl ?_
  refine sp_X5_isSheet _ ?_
  rw [sm_ok t ht]
  refine ok_if_ne (tgt := 21) dX5_copy_11 (by decide) (fun _ => ?_) (fun c9 => absurd c9 (by decide))
  refine ok_aload_n dX5_copy_21 rfl rfl ?_
  refine ok_getR dX5_copy_22 f_X5_28 (by first | exact is_lit hv (by decide) rfl | exact is_sq hv hq | exact is_row hv hq | exact is_pn hv hq (by assumption) | assumption) rfl (by first | exact rf hv rfl | exact rf_row hv hq | assumption) ?_
  refine ok_iload_n dX5_copy_25 rfl rfl ?_
  refine ok_iaload dX5_copy_26 (is_lit hv (by decide) rfl) (vp_in_nI hs (by decide)) ?_
  rw [nI_clamp (by omega)]
  rw [eb]
  refine ok_if_eq (tgt := 39) dX5_copy_27 (by decide) (fun c9 => absurd c9 hm) (fun _ => ?_)
  refine ok_aload_n dX5_copy_30 rfl rfl ?_
  refine ok_getR dX5_copy_31 f_X5_28 (by first | exact is_lit hv (by decide) rfl | exact is_sq hv hq | exact is_row hv hq | exact is_pn hv hq (by assumption) | assumption) rfl (by first | exact rf hv rfl | exact rf_row hv hq | assumption) ?_
  refine ok_iload_n dX5_copy_34 rfl rfl ?_
  refine ok_iaload dX5_copy_35 (is_lit hv (by decide) rfl) (vp_in_nI ht (by decide)) ?_
  rw [nI_clamp (by omega)]
  rw [ec]
  refine ok_if_ne (tgt := 47) dX5_copy_36 (by decide) (fun _ => ?_) (fun c9 => absurd c9 hm2)
  refine ok_aload_n dX5_copy_47 rfl rfl ?_
  refine ok_getR dX5_copy_48 f_X5_28 (by first | exact is_lit hv (by decide) rfl | exact is_sq hv hq | exact is_row hv hq | exact is_pn hv hq (by assumption) | assumption) rfl (by first | exact rf hv rfl | exact rf_row hv hq | assumption) ?_
  refine ok_iload_n dX5_copy_51 rfl rfl ?_
  refine ok_iaload dX5_copy_52 (is_lit hv (by decide) rfl) (vp_in_nI hs (by decide)) ?_
  rw [nI_clamp (by omega)]
  rw [eb]
  refine ok_aload_n dX5_copy_53 rfl rfl ?_
  refine ok_getR dX5_copy_54 f_X5_28 (by first | exact is_lit hv (by decide) rfl | exact is_sq hv hq | exact is_row hv hq | exact is_pn hv hq (by assumption) | assumption) rfl (by first | exact rf hv rfl | exact rf_row hv hq | assumption) ?_
  refine ok_iload_n dX5_copy_57 rfl rfl ?_
  refine ok_iaload dX5_copy_58 (is_lit hv (by decide) rfl) (vp_in_nI ht (by decide)) ?_
  rw [nI_clamp (by omega)]
  rw [ec]
  refine ok_icmp_eq (tgt := 69) dX5_copy_59 (by decide) (fun _ => ?_) (fun c9 => absurd hk c9)
  refine ok_aload_n dX5_copy_69 rfl rfl ?_
  refine ok_iload_n dX5_copy_70 rfl rfl ?_
  refine ok_iload_n dX5_copy_71 rfl rfl ?_
  refine ok_iload dX5_copy_72 rfl ?_
  refine ok_callV (M' := mX5_isPart) (b' := (0, 0)) (As := [_, _, _]) (cx := 5) dX5_copy_74 iX5_isPart w_1177 (by decide) rfl (by first | exact is_lit hv (by decide) rfl | exact is_sq hv hq | exact is_row hv hq | exact is_pn hv hq (by assumption) | assumption) rfl (Nat.le_of_ble_eq_true rfl) ⟨Nat.le_of_ble_eq_true rfl, Nat.le_of_ble_eq_true rfl⟩ (Nat.le_of_ble_eq_true rfl) rfl rfl ?_
  refine sp_X5_isPart hv hs l1 e1 _ _ ?_
  rw [hp]
  refine ok_if_eq (tgt := 92) dX5_copy_77 (by decide) (fun c9 => absurd c9 (by decide)) (fun _ => ?_)
  refine ok_aload_n dX5_copy_80 rfl rfl ?_
  refine ok_iload_n dX5_copy_81 rfl rfl ?_
  refine ok_iload dX5_copy_82 rfl ?_
  refine ok_iload dX5_copy_84 rfl ?_
  refine ok_callV (M' := mX5_isPart) (b' := (0, 0)) (As := [_, _, _]) (cx := 5) dX5_copy_86 iX5_isPart w_1177 (by decide) rfl (by first | exact is_lit hv (by decide) rfl | exact is_sq hv hq | exact is_row hv hq | exact is_pn hv hq (by assumption) | assumption) rfl (Nat.le_of_ble_eq_true rfl) ⟨Nat.le_of_ble_eq_true rfl, Nat.le_of_ble_eq_true rfl⟩ (Nat.le_of_ble_eq_true rfl) rfl rfl ?_
  refine sp_X5_isPart hv ht l2 e2 _ _ ?_
  rw [hq]
  refine ok_if_ne (tgt := 99) dX5_copy_89 (by decide) (fun c9 => absurd c9 (fun c => c rfl)) (fun _ => ?_)
  refine ok_aload_n dX5_copy_92 rfl rfl ?_
  refine ok_ldc dX5_copy_93 w_849 ?_
  refine ok_callV (M' := mX5_finds) (b' := (0, 0)) (As := [_]) (cx := 5) dX5_copy_95 iX5_finds w_850 (by decide) rfl (by first | exact is_lit hv (by decide) rfl | exact is_sq hv hq | exact is_row hv hq | exact is_pn hv hq (by assumption) | assumption) rfl (Nat.le_of_ble_eq_true rfl) ⟨Nat.le_of_ble_eq_true rfl, Nat.le_of_ble_eq_true rfl⟩ (Nat.le_of_ble_eq_true rfl) rfl rfl ?_
  refine sp_X5_finds hv (k := 0) (by decide) (by decide) ?_
  refine ok_ireturn dX5_copy_98 rfl rfl ?_
  first | exact K | (simp only [↓reduceIte] at K; exact K)
/-- lent: the first i -/
def Ln (h : Hp) (a i : Nat) : Hp := (h.1, fun q j => if q = 59 ∧ j < i then h.2.1 58 (a + j) else h.2.1 q j, h.2.2)
theorem Ln_0 (h : Hp) (a : Nat) : Ln h a 0 = h := by
  have : (fun q j => if q = 59 ∧ j < 0 then h.2.1 58 (a + j) else h.2.1 q j) = h.2.1 := funext fun q => funext fun j => if_neg (by omega)
  show (h.1, _, h.2.2) = h
  rw [this]
theorem Ln_s (h : Hp) (a i : Nat) : uL (Ln h a i) 59 i (h.2.1 58 (a + i)) = Ln h a (i + 1) := by
  have : (fun q j => if q = 59 ∧ j = i then h.2.1 58 (a + i) else if q = 59 ∧ j < i then h.2.1 58 (a + j) else h.2.1 q j) = fun q j => if q = 59 ∧ j < i + 1 then h.2.1 58 (a + j) else h.2.1 q j := by
    funext q j
    by_cases e : q = 59 ∧ j = i
    · rw [if_pos e, if_pos (by omega), e.2]
    · rw [if_neg e]
      by_cases e2 : q = 59 ∧ j < i
      · rw [if_pos e2, if_pos (by omega)]
      · rw [if_neg e2, if_neg (by omega)]
  show (h.1, _, h.2.2) = (h.1, _, h.2.2)
  rw [← this]
  rfl
theorem Ln_58 {h : Hp} {a i j : Nat} : hL (Ln h a i) 58 j = hL h 58 j := by
  show (if 58 = 59 ∧ j < i then h.2.1 58 (a + j) else h.2.1 58 j) = h.2.1 58 j
  exact if_neg (by omega)
def Lp (h : Hp) (a d i : Nat) : Hp := (h.1, fun q j => if q = 58 ∧ d ≤ j ∧ j < d + i then h.2.1 59 (j - d) else h.2.1 q j, h.2.2)
theorem Lp_0 (h : Hp) (a d : Nat) : Lp h a d 0 = h := by
  have : (fun q j => if q = 58 ∧ d ≤ j ∧ j < d + 0 then h.2.1 59 (j - d) else h.2.1 q j) = h.2.1 := funext fun q => funext fun j => if_neg (by omega)
  show (h.1, _, h.2.2) = h
  rw [this]
theorem Lp_s (h : Hp) (a d i : Nat) : uL (Lp h a d i) 58 (d + i) (h.2.1 59 i) = Lp h a d (i + 1) := by
  have : (fun q j => if q = 58 ∧ j = d + i then h.2.1 59 i else if q = 58 ∧ d ≤ j ∧ j < d + i then h.2.1 59 (j - d) else h.2.1 q j) = fun q j => if q = 58 ∧ d ≤ j ∧ j < d + (i + 1) then h.2.1 59 (j - d) else h.2.1 q j := by
    funext q j
    by_cases e : q = 58 ∧ j = d + i
    · rw [if_pos e, if_pos (by omega), e.2, show d + i - d = i by omega]
    · rw [if_neg e]
      by_cases e2 : q = 58 ∧ d ≤ j ∧ j < d + i
      · rw [if_pos e2, if_pos (by omega)]
      · rw [if_neg e2, if_neg (by omega)]
  show (h.1, _, h.2.2) = (h.1, _, h.2.2)
  rw [← this]
  rfl
theorem Lp_59 {h : Hp} {a d i j : Nat} : hL (Lp h a d i) 59 j = hL h 59 j := by
  show (if 59 = 58 ∧ d ≤ j ∧ j < d + i then h.2.1 59 (j - d) else h.2.1 59 j) = h.2.1 59 j
  exact if_neg (by omega)
/-- the reference after a copy -/
def CpM (h : Hp) (a d n : Nat) : Hp := Lp (Ln h a n) a d n
theorem lp_X5_copy_139 {g : GG} {h : Hp} {Post : Option Value → Hp → Prop} (hv0 : Inv h) {s : Nat} (hs : s < 4) {t : Nat} (ht : t < 4) {f o n zs zt : Nat} (l1 : zs ≤ 40) (l2 : zt ≤ 40) (hp : f + n ≤ zs) (hq : o + n ≤ zt) (K : Post (some (.int (nI n))) (Lp h (40 * s + f) (40 * t + o) n)) : ∀ (k i : Nat), i + k = n → Go g mX5_copy 139 [some (.ref 49), some (.int (nI s)), some (.int (nI f)), some (.int (nI t)), some (.int (nI o)), some (.int (nI n)), some (.int (nI i))] [] (Lp h (40 * s + f) (40 * t + o) i) (0, 0) Post := by
  intro k
  induction k with
  | zero =>
    intro i  hik 
    obtain rfl : i = n := by omega
    refine ok_iload dX5_copy_139 rfl ?_
    refine ok_iload dX5_copy_141 rfl ?_
    refine ok_icmp_ge (tgt := 174) dX5_copy_143 (by decide) (fun _ => ?_) (fun c9 => absurd (nI_le (Nat.le_refl _) (by omega)) c9)
    refine ok_iload dX5_copy_174 rfl ?_
    refine ok_ireturn dX5_copy_176 rfl rfl ?_
    exact K
  | succ k ih =>
    intro i  hik 
    have hi : i < n := by omega
    have hv : Inv (Lp h (40 * s + f) (40 * t + o) i) := hv0
    refine ok_iload dX5_copy_139 rfl ?_
    refine ok_iload dX5_copy_141 rfl ?_
    refine ok_icmp_ge (tgt := 174) dX5_copy_143 (by decide) (fun c9 => absurd c9 (nI_ge hi (by omega))) (fun _ => ?_)
    refine ok_aload_n dX5_copy_146 rfl rfl ?_
    refine ok_getR dX5_copy_147 f_X5_34 (by first | exact is_lit hv (by decide) rfl | exact is_sq hv hq | exact is_row hv hq | exact is_pn hv hq (by assumption) | assumption) rfl (by first | exact rf hv rfl | exact rf_row hv hq | assumption) ?_
    refine ok_bipush (v := 40) dX5_copy_150 (by decide) ?_
    refine ok_iload_n dX5_copy_152 rfl rfl ?_
    refine ok_imul dX5_copy_153 ?_
    refine ok_iload dX5_copy_154 rfl ?_
    refine ok_iadd dX5_copy_156 ?_
    rw [ix40 t ht o (by omega)]
    refine ok_iload dX5_copy_157 rfl ?_
    refine ok_iadd dX5_copy_159 ?_
    rw [nI_pl (by omega)]
    refine ok_aload_n dX5_copy_160 rfl rfl ?_
    refine ok_getR dX5_copy_161 f_X5_38 (by first | exact is_lit hv (by decide) rfl | exact is_sq hv hq | exact is_row hv hq | exact is_pn hv hq (by assumption) | assumption) rfl (by first | exact rf hv rfl | exact rf_row hv hq | assumption) ?_
    refine ok_iload dX5_copy_164 rfl ?_
    refine ok_laload dX5_copy_166 (is_lit hv (by decide) rfl) (vp_in_nI (by omega) (by decide)) ?_
    rw [nI_clamp (by omega), Lp_59]
    refine ok_lastore dX5_copy_167 (is_lit hv (by decide) rfl) (vp_in_nI (by omega) (by decide)) ?_
    refine ok_iinc (v := _ + 1) (lo' := [_, _, _, _, _, _, _]) dX5_copy_168 rfl rfl (Nat.le_of_ble_eq_true rfl) rfl rfl ?_
    refine ok_goto (tgt := 139) dX5_copy_171 (by decide) ?_
    rw [nI_1, nI_clamp (by omega), show hL h 59 i = h.2.1 59 i from rfl, Lp_s]
    exact ih (i + 1) (by omega)
theorem lp_X5_copy_102 {g : GG} {h : Hp} {Post : Option Value → Hp → Prop} (hv0 : Inv h) {s : Nat} (hs : s < 4) {t : Nat} (ht : t < 4) {f o n zs zt : Nat} (l1 : zs ≤ 40) (l2 : zt ≤ 40) (hp : f + n ≤ zs) (hq : o + n ≤ zt) (K : Post (some (.int (nI n))) (CpM h (40 * s + f) (40 * t + o) n)) : ∀ (k i : Nat), i + k = n → Go g mX5_copy 102 [some (.ref 49), some (.int (nI s)), some (.int (nI f)), some (.int (nI t)), some (.int (nI o)), some (.int (nI n)), some (.int (nI i))] [] (Ln h (40 * s + f) i) (0, 0) Post := by
  intro k
  induction k with
  | zero =>
    intro i  hik 
    obtain rfl : i = n := by omega
    refine ok_iload dX5_copy_102 rfl ?_
    refine ok_iload dX5_copy_104 rfl ?_
    refine ok_icmp_ge (tgt := 136) dX5_copy_106 (by decide) (fun _ => ?_) (fun c9 => absurd (nI_le (Nat.le_refl _) (by omega)) c9)
    refine ok_iconst (v := 0) dX5_copy_136 (by decide) ?_
    refine ok_istore (lo' := [_, _, _, _, _, _, _]) dX5_copy_137 (Nat.le_of_ble_eq_true rfl) rfl rfl ?_
    have e := lp_X5_copy_139 (g := g) (h := Ln h (40 * s + f) i) hv0 hs ht l1 l2 hp hq K i 0 (by omega)
    rw [Lp_0] at e
    exact e
  | succ k ih =>
    intro i  hik 
    have hi : i < n := by omega
    have hv : Inv (Ln h (40 * s + f) i) := hv0
    refine ok_iload dX5_copy_102 rfl ?_
    refine ok_iload dX5_copy_104 rfl ?_
    refine ok_icmp_ge (tgt := 136) dX5_copy_106 (by decide) (fun c9 => absurd c9 (nI_ge hi (by omega))) (fun _ => ?_)
    refine ok_aload_n dX5_copy_109 rfl rfl ?_
    refine ok_getR dX5_copy_110 f_X5_38 (by first | exact is_lit hv (by decide) rfl | exact is_sq hv hq | exact is_row hv hq | exact is_pn hv hq (by assumption) | assumption) rfl (by first | exact rf hv rfl | exact rf_row hv hq | assumption) ?_
    refine ok_iload dX5_copy_113 rfl ?_
    refine ok_aload_n dX5_copy_115 rfl rfl ?_
    refine ok_getR dX5_copy_116 f_X5_34 (by first | exact is_lit hv (by decide) rfl | exact is_sq hv hq | exact is_row hv hq | exact is_pn hv hq (by assumption) | assumption) rfl (by first | exact rf hv rfl | exact rf_row hv hq | assumption) ?_
    refine ok_bipush (v := 40) dX5_copy_119 (by decide) ?_
    refine ok_iload_n dX5_copy_121 rfl rfl ?_
    refine ok_imul dX5_copy_122 ?_
    refine ok_iload_n dX5_copy_123 rfl rfl ?_
    refine ok_iadd dX5_copy_124 ?_
    rw [ix40 s hs f (by omega)]
    refine ok_iload dX5_copy_125 rfl ?_
    refine ok_iadd dX5_copy_127 ?_
    rw [nI_pl (by omega)]
    refine ok_laload dX5_copy_128 (is_lit hv (by decide) rfl) (vp_in_nI (by omega) (by decide)) ?_
    rw [nI_clamp (by omega), Ln_58]
    refine ok_lastore dX5_copy_129 (is_lit hv (by decide) rfl) (vp_in_nI (by omega) (by decide)) ?_
    refine ok_iinc (v := _ + 1) (lo' := [_, _, _, _, _, _, _]) dX5_copy_130 rfl rfl (Nat.le_of_ble_eq_true rfl) rfl rfl ?_
    refine ok_goto (tgt := 102) dX5_copy_133 (by decide) ?_
    rw [nI_1, nI_clamp (by omega), show hL h 58 (40 * s + f + i) = h.2.1 58 (40 * s + f + i) from rfl, Ln_s]
    exact ih (i + 1) (by omega)
theorem sp_X5_copy {g : GG} {h : Hp} {Post : Option Value → Hp → Prop} (hv : Inv h) {s : Nat} (hs : s < 4) {t : Nat} (ht : t < 4) {b c : Int32} (eb : hI h 56 s = b) (ec : hI h 56 t = c) {zs zt : Nat} (l1 : zs ≤ 40) (l2 : zt ≤ 40) (e1 : hI h 57 s = nI zs) (e2 : hI h 57 t = nI zt) {f o n : Nat} (hm : ¬ b = 0) (hm2 : ¬ c = 0) (hk : b = c) (hp : f + n ≤ zs) (hq : o + n ≤ zt) (K : Post (some (.int (nI n))) (CpM h (40 * s + f) (40 * t + o) n)) : Sp g mX5_copy [.ref 49, .int (nI s), .int (nI f), .int (nI t), .int (nI o), .int (nI n)] h Post := by
  show Go g mX5_copy 0 [_, _, _, _, _, _, _] [] _ _ _
  refine ok_iload_n dX5_copy_0 rfl rfl ?_
  refine ok_callS (M' := mX5_isSheet) (b' := (0, 0)) (As := [_]) dX5_copy_1 iX5_isSheet w_1162 rfl (Nat.le_of_ble_eq_true rfl) ⟨Nat.le_of_ble_eq_true rfl, Nat.le_of_ble_eq_true rfl⟩ (Nat.le_of_ble_eq_true rfl) rfl rfl ?_
  refine sp_X5_isSheet _ ?_
  rw [sm_ok s hs]
  refine ok_if_eq (tgt := 14) dX5_copy_4 (by decide) (fun c9 => absurd c9 (by decide)) (fun _ => ?_)
  refine ok_iload_n dX5_copy_7 rfl rfl ?_
  refine ok_callS (M' := mX5_isSheet) (b' := (0, 0)) (As := [_]) dX5_copy_8 iX5_isSheet w_1162 rfl (Nat.le_of_ble_eq_true rfl) ⟨Nat.le_of_ble_eq_true rfl, Nat.le_of_ble_eq_true rfl⟩ (Nat.le_of_ble_eq_true rfl) rfl rfl ?_
  refine sp_X5_isSheet _ ?_
  rw [sm_ok t ht]
  refine ok_if_ne (tgt := 21) dX5_copy_11 (by decide) (fun _ => ?_) (fun c9 => absurd c9 (by decide))
  refine ok_aload_n dX5_copy_21 rfl rfl ?_
  refine ok_getR dX5_copy_22 f_X5_28 (by first | exact is_lit hv (by decide) rfl | exact is_sq hv hq | exact is_row hv hq | exact is_pn hv hq (by assumption) | assumption) rfl (by first | exact rf hv rfl | exact rf_row hv hq | assumption) ?_
  refine ok_iload_n dX5_copy_25 rfl rfl ?_
  refine ok_iaload dX5_copy_26 (is_lit hv (by decide) rfl) (vp_in_nI hs (by decide)) ?_
  rw [nI_clamp (by omega)]
  rw [eb]
  refine ok_if_eq (tgt := 39) dX5_copy_27 (by decide) (fun c9 => absurd c9 hm) (fun _ => ?_)
  refine ok_aload_n dX5_copy_30 rfl rfl ?_
  refine ok_getR dX5_copy_31 f_X5_28 (by first | exact is_lit hv (by decide) rfl | exact is_sq hv hq | exact is_row hv hq | exact is_pn hv hq (by assumption) | assumption) rfl (by first | exact rf hv rfl | exact rf_row hv hq | assumption) ?_
  refine ok_iload_n dX5_copy_34 rfl rfl ?_
  refine ok_iaload dX5_copy_35 (is_lit hv (by decide) rfl) (vp_in_nI ht (by decide)) ?_
  rw [nI_clamp (by omega)]
  rw [ec]
  refine ok_if_ne (tgt := 47) dX5_copy_36 (by decide) (fun _ => ?_) (fun c9 => absurd c9 hm2)
  refine ok_aload_n dX5_copy_47 rfl rfl ?_
  refine ok_getR dX5_copy_48 f_X5_28 (by first | exact is_lit hv (by decide) rfl | exact is_sq hv hq | exact is_row hv hq | exact is_pn hv hq (by assumption) | assumption) rfl (by first | exact rf hv rfl | exact rf_row hv hq | assumption) ?_
  refine ok_iload_n dX5_copy_51 rfl rfl ?_
  refine ok_iaload dX5_copy_52 (is_lit hv (by decide) rfl) (vp_in_nI hs (by decide)) ?_
  rw [nI_clamp (by omega)]
  rw [eb]
  refine ok_aload_n dX5_copy_53 rfl rfl ?_
  refine ok_getR dX5_copy_54 f_X5_28 (by first | exact is_lit hv (by decide) rfl | exact is_sq hv hq | exact is_row hv hq | exact is_pn hv hq (by assumption) | assumption) rfl (by first | exact rf hv rfl | exact rf_row hv hq | assumption) ?_
  refine ok_iload_n dX5_copy_57 rfl rfl ?_
  refine ok_iaload dX5_copy_58 (is_lit hv (by decide) rfl) (vp_in_nI ht (by decide)) ?_
  rw [nI_clamp (by omega)]
  rw [ec]
  refine ok_icmp_eq (tgt := 69) dX5_copy_59 (by decide) (fun _ => ?_) (fun c9 => absurd hk c9)
  refine ok_aload_n dX5_copy_69 rfl rfl ?_
  refine ok_iload_n dX5_copy_70 rfl rfl ?_
  refine ok_iload_n dX5_copy_71 rfl rfl ?_
  refine ok_iload dX5_copy_72 rfl ?_
  refine ok_callV (M' := mX5_isPart) (b' := (0, 0)) (As := [_, _, _]) (cx := 5) dX5_copy_74 iX5_isPart w_1177 (by decide) rfl (by first | exact is_lit hv (by decide) rfl | exact is_sq hv hq | exact is_row hv hq | exact is_pn hv hq (by assumption) | assumption) rfl (Nat.le_of_ble_eq_true rfl) ⟨Nat.le_of_ble_eq_true rfl, Nat.le_of_ble_eq_true rfl⟩ (Nat.le_of_ble_eq_true rfl) rfl rfl ?_
  refine sp_X5_isPart hv hs l1 e1 _ _ ?_
  rw [part_ok l1 hp]
  refine ok_if_eq (tgt := 92) dX5_copy_77 (by decide) (fun c9 => absurd c9 (by decide)) (fun _ => ?_)
  refine ok_aload_n dX5_copy_80 rfl rfl ?_
  refine ok_iload_n dX5_copy_81 rfl rfl ?_
  refine ok_iload dX5_copy_82 rfl ?_
  refine ok_iload dX5_copy_84 rfl ?_
  refine ok_callV (M' := mX5_isPart) (b' := (0, 0)) (As := [_, _, _]) (cx := 5) dX5_copy_86 iX5_isPart w_1177 (by decide) rfl (by first | exact is_lit hv (by decide) rfl | exact is_sq hv hq | exact is_row hv hq | exact is_pn hv hq (by assumption) | assumption) rfl (Nat.le_of_ble_eq_true rfl) ⟨Nat.le_of_ble_eq_true rfl, Nat.le_of_ble_eq_true rfl⟩ (Nat.le_of_ble_eq_true rfl) rfl rfl ?_
  refine sp_X5_isPart hv ht l2 e2 _ _ ?_
  rw [part_ok l2 hq]
  refine ok_if_ne (tgt := 99) dX5_copy_89 (by decide) (fun _ => ?_) (fun c9 => absurd c9 (by decide))
  refine ok_iconst (v := 0) dX5_copy_99 (by decide) ?_
  refine ok_istore (lo' := [_, _, _, _, _, _, _]) dX5_copy_100 (Nat.le_of_ble_eq_true rfl) rfl rfl ?_
  have e := lp_X5_copy_102 (g := g) hv hs ht l1 l2 hp hq K n 0 (by omega)
  rw [Ln_0] at e
  exact e
theorem sp_X5_lays_b {g : GG} {h : Hp} {Post : Option Value → Hp → Prop} (hv : Inv h) (v : Int32) (hb : v < 0 ∨ 4 ≤ v) (K : Post (some (.int (-1000000001))) (hfm h 0)) : Sp g mX5_lays [.ref 49, .int v] h Post := by
  show Go g mX5_lays 0 [_, _, _, _, _, _] [] _ _ _
  refine ok_iload_n dX5_lays_0 rfl rfl ?_
  refine ok_callS (M' := mX5_isSheet) (b' := (0, 0)) (As := [_]) dX5_lays_1 iX5_isSheet w_1162 rfl (Nat.le_of_ble_eq_true rfl) ⟨Nat.le_of_ble_eq_true rfl, Nat.le_of_ble_eq_true rfl⟩ (Nat.le_of_ble_eq_true rfl) rfl rfl ?_
  refine sp_X5_isSheet _ ?_
  rw [sm_bad hb]
  refine ok_if_ne (tgt := 14) dX5_lays_4 (by decide) (fun c9 => absurd c9 (fun c => c rfl)) (fun _ => ?_)
  refine ok_aload_n dX5_lays_7 rfl rfl ?_
  refine ok_ldc dX5_lays_8 w_849 ?_
  refine ok_callV (M' := mX5_finds) (b' := (0, 0)) (As := [_]) (cx := 5) dX5_lays_10 iX5_finds w_850 (by decide) rfl (by first | exact is_lit hv (by decide) rfl | exact is_sq hv hq | exact is_row hv hq | exact is_pn hv hq (by assumption) | assumption) rfl (Nat.le_of_ble_eq_true rfl) ⟨Nat.le_of_ble_eq_true rfl, Nat.le_of_ble_eq_true rfl⟩ (Nat.le_of_ble_eq_true rfl) rfl rfl ?_
  refine sp_X5_finds hv (k := 0) (by decide) (by decide) ?_
  refine ok_ireturn dX5_lays_13 rfl rfl ?_
  first | exact K | (simp only [↓reduceIte] at K; exact K)
theorem sp_X5_lays_m {g : GG} {h : Hp} {Post : Option Value → Hp → Prop} (hv : Inv h) {s : Nat} (hs : s < 4) {b : Int32} (eb : hI h 56 s = b) (hm : b = 0) (K : Post (some (.int (-1000000006))) (hfm h 5)) : Sp g mX5_lays [.ref 49, .int (nI s)] h Post := by
  show Go g mX5_lays 0 [_, _, _, _, _, _] [] _ _ _
  refine ok_iload_n dX5_lays_0 rfl rfl ?_
  refine ok_callS (M' := mX5_isSheet) (b' := (0, 0)) (As := [_]) dX5_lays_1 iX5_isSheet w_1162 rfl (Nat.le_of_ble_eq_true rfl) ⟨Nat.le_of_ble_eq_true rfl, Nat.le_of_ble_eq_true rfl⟩ (Nat.le_of_ble_eq_true rfl) rfl rfl ?_
  refine sp_X5_isSheet _ ?_
  rw [sm_ok s hs]
  refine ok_if_ne (tgt := 14) dX5_lays_4 (by decide) (fun _ => ?_) (fun c9 => absurd c9 (by decide))
  refine ok_aload_n dX5_lays_14 rfl rfl ?_
  refine ok_getR dX5_lays_15 f_X5_28 (by first | exact is_lit hv (by decide) rfl | exact is_sq hv hq | exact is_row hv hq | exact is_pn hv hq (by assumption) | assumption) rfl (by first | exact rf hv rfl | exact rf_row hv hq | assumption) ?_
  refine ok_iload_n dX5_lays_18 rfl rfl ?_
  refine ok_iaload dX5_lays_19 (is_lit hv (by decide) rfl) (vp_in_nI hs (by decide)) ?_
  rw [nI_clamp (by omega)]
  rw [eb]
  refine ok_if_ne (tgt := 31) dX5_lays_20 (by decide) (fun c9 => absurd c9 (fun c => c hm)) (fun _ => ?_)
  refine ok_aload_n dX5_lays_23 rfl rfl ?_
  refine ok_ldcw dX5_lays_24 w_1169 ?_
  refine ok_callV (M' := mX5_finds) (b' := (0, 0)) (As := [_]) (cx := 5) dX5_lays_27 iX5_finds w_850 (by decide) rfl (by first | exact is_lit hv (by decide) rfl | exact is_sq hv hq | exact is_row hv hq | exact is_pn hv hq (by assumption) | assumption) rfl (Nat.le_of_ble_eq_true rfl) ⟨Nat.le_of_ble_eq_true rfl, Nat.le_of_ble_eq_true rfl⟩ (Nat.le_of_ble_eq_true rfl) rfl rfl ?_
  refine sp_X5_finds hv (k := 5) (by decide) (by decide) ?_
  refine ok_ireturn dX5_lays_30 rfl rfl ?_
  first | exact K | (simp only [↓reduceIte] at K; exact K)
theorem lp_X5_lays_35 {g : GG} {h0 : Hp} {Post : Option Value → Hp → Prop} (hv0 : Inv h0) {n : Nat} (hn : n ≤ 10) {r : Nat → Int32} {s : Nat} (hs : s < 4) {z : Nat} (hz : z ≤ 40) (ez0 : hI h0 57 s = nI z) {L : Nat → Int64} (hL0 : ∀ j, j < 40 → hL h0 58 (40 * s + j) = L j) (K : ∀ h', QR h0 h' → RM 50 h' n (w_lays r L (min z n)) → Post (some (.int (w_came L (min z n)))) h') : ∀ (k i : Nat) (h : Hp) (x4 : Option Value), i + k = min z n → QR h0 h → RM 50 h n (w_lays r L i) → Go g mX5_lays 35 [some (.ref 49), some (.int (nI s)), some (.int (w_came L i)), some (.int (nI i)), x4, none] [] h (0, 0) Post := by
  intro k
  induction k with
  | zero =>
    intro i h x4 hik M R
    obtain rfl : i = min z n := by omega
    have hv := M.inv hv0
    have ez : hI h 57 s = nI z := (congrFun (M.2 57 (by decide)) s).trans ez0
    by_cases c : n ≤ z
    · refine ok_iload_n dX5_lays_35 rfl rfl ?_
      refine ok_aload_n dX5_lays_36 rfl rfl ?_
      refine ok_getR dX5_lays_37 f_X5_7 (by first | exact is_lit hv (by decide) rfl | exact is_sq hv hq | exact is_row hv hq | exact is_pn hv hq (by assumption) | assumption) rfl (by first | exact rf hv rfl | exact rf_row hv hq | assumption) ?_
      refine ok_iconst (v := 0) dX5_lays_40 (by decide) ?_
      refine ok_iaload dX5_lays_41 (is_lit hv (by decide) rfl) (by unfold vp_in; decide) ?_
      rw [show hI h 50 (Int32.toNatClampNeg 0) = nI n from (R.2.2.1 0 (by decide)).trans R.2.1]
      refine ok_icmp_ge (tgt := 102) dX5_lays_42 (by decide) (fun _ => ?_) (fun c9 => absurd (nI_le (by omega) (by omega)) c9)
      refine ok_iload_n dX5_lays_102 rfl rfl ?_
      refine ok_ireturn dX5_lays_103 rfl rfl ?_
      exact K h M R
    · refine ok_iload_n dX5_lays_35 rfl rfl ?_
      refine ok_aload_n dX5_lays_36 rfl rfl ?_
      refine ok_getR dX5_lays_37 f_X5_7 (by first | exact is_lit hv (by decide) rfl | exact is_sq hv hq | exact is_row hv hq | exact is_pn hv hq (by assumption) | assumption) rfl (by first | exact rf hv rfl | exact rf_row hv hq | assumption) ?_
      refine ok_iconst (v := 0) dX5_lays_40 (by decide) ?_
      refine ok_iaload dX5_lays_41 (is_lit hv (by decide) rfl) (by unfold vp_in; decide) ?_
      rw [show hI h 50 (Int32.toNatClampNeg 0) = nI n from (R.2.2.1 0 (by decide)).trans R.2.1]
      refine ok_icmp_ge (tgt := 102) dX5_lays_42 (by decide) (fun c9 => absurd c9 (nI_ge (by omega) (by omega))) (fun _ => ?_)
      refine ok_iload_n dX5_lays_45 rfl rfl ?_
      refine ok_aload_n dX5_lays_46 rfl rfl ?_
      refine ok_getR dX5_lays_47 f_X5_31 (by first | exact is_lit hv (by decide) rfl | exact is_sq hv hq | exact is_row hv hq | exact is_pn hv hq (by assumption) | assumption) rfl (by first | exact rf hv rfl | exact rf_row hv hq | assumption) ?_
      refine ok_iload_n dX5_lays_50 rfl rfl ?_
      refine ok_iaload dX5_lays_51 (is_lit hv (by decide) rfl) (vp_in_nI hs (by decide)) ?_
      rw [nI_clamp (by omega)]
      rw [ez]
      refine ok_icmp_ge (tgt := 102) dX5_lays_52 (by decide) (fun _ => ?_) (fun c9 => absurd (nI_le (by omega) (by omega)) c9)
      refine ok_iload_n dX5_lays_102 rfl rfl ?_
      refine ok_ireturn dX5_lays_103 rfl rfl ?_
      exact K h M R
  | succ k ih =>
    intro i h x4 hik M R
    have hv := M.inv hv0
    have ez : hI h 57 s = nI z := (congrFun (M.2 57 (by decide)) s).trans ez0
    have hLi : hL h 58 (40 * s + i) = L i := (congrFun (congrFun (congrArg (·.1) M.1) 58) (40 * s + i)).trans (hL0 i (by omega))
    have e := fun h2 x => ih (i + 1) h2 x (by omega)
    rw [w_lays, w_came] at e
    refine ok_iload_n dX5_lays_35 rfl rfl ?_
    refine ok_aload_n dX5_lays_36 rfl rfl ?_
    refine ok_getR dX5_lays_37 f_X5_7 (by first | exact is_lit hv (by decide) rfl | exact is_sq hv hq | exact is_row hv hq | exact is_pn hv hq (by assumption) | assumption) rfl (by first | exact rf hv rfl | exact rf_row hv hq | assumption) ?_
    refine ok_iconst (v := 0) dX5_lays_40 (by decide) ?_
    refine ok_iaload dX5_lays_41 (is_lit hv (by decide) rfl) (by unfold vp_in; decide) ?_
    rw [show hI h 50 (Int32.toNatClampNeg 0) = nI n from (R.2.2.1 0 (by decide)).trans R.2.1]
    refine ok_icmp_ge (tgt := 102) dX5_lays_42 (by decide) (fun c9 => absurd c9 (nI_ge (by omega) (by omega))) (fun _ => ?_)
    refine ok_iload_n dX5_lays_45 rfl rfl ?_
    refine ok_aload_n dX5_lays_46 rfl rfl ?_
    refine ok_getR dX5_lays_47 f_X5_31 (by first | exact is_lit hv (by decide) rfl | exact is_sq hv hq | exact is_row hv hq | exact is_pn hv hq (by assumption) | assumption) rfl (by first | exact rf hv rfl | exact rf_row hv hq | assumption) ?_
    refine ok_iload_n dX5_lays_50 rfl rfl ?_
    refine ok_iaload dX5_lays_51 (is_lit hv (by decide) rfl) (vp_in_nI hs (by decide)) ?_
    rw [nI_clamp (by omega)]
    rw [ez]
    refine ok_icmp_ge (tgt := 102) dX5_lays_52 (by decide) (fun c9 => absurd c9 (nI_ge (by omega) (by omega))) (fun _ => ?_)
    refine ok_aload_n dX5_lays_55 rfl rfl ?_
    refine ok_getR dX5_lays_56 f_X5_34 (by first | exact is_lit hv (by decide) rfl | exact is_sq hv hq | exact is_row hv hq | exact is_pn hv hq (by assumption) | assumption) rfl (by first | exact rf hv rfl | exact rf_row hv hq | assumption) ?_
    refine ok_bipush (v := 40) dX5_lays_59 (by decide) ?_
    refine ok_iload_n dX5_lays_61 rfl rfl ?_
    refine ok_imul dX5_lays_62 ?_
    refine ok_iload_n dX5_lays_63 rfl rfl ?_
    refine ok_iadd dX5_lays_64 ?_
    rw [ix40 s hs i (by omega)]
    refine ok_laload dX5_lays_65 (is_lit hv (by decide) rfl) (vp_in_nI (by omega) (by decide)) ?_
    rw [nI_clamp (by omega), hLi]
    refine ok_lstore (lo' := [_, _, _, _, _, _]) dX5_lays_66 (Nat.le_of_ble_eq_true rfl) rfl rfl ?_
    refine ok_lload dX5_lays_68 rfl ?_
    refine ok_lconst (v := 0) dX5_lays_70 (by decide) ?_
    refine ok_lcmp dX5_lays_71 ?_
    refine ok_if_lt (tgt := 96) dX5_lays_72 (by decide) (fun c_72 => ?_) (fun c_72 => ?_)
    · refine ok_iinc (v := _ + 1) (lo' := [_, _, _, _, _, _]) dX5_lays_96 rfl rfl (Nat.le_of_ble_eq_true rfl) rfl rfl ?_
      refine ok_goto (tgt := 35) dX5_lays_99 (by decide) ?_
      rw [nI_1]
      first
        | (rw [if_pos ((lg_cmp_lt _ _).mp c_72), if_pos ((lg_cmp_lt _ _).mp c_72)] at e; exact e h _ M R)
        | (rw [if_neg (fun z => c_72 ((lg_cmp_lt _ _).mpr z)), if_neg (fun z => c_72 ((lg_cmp_lt _ _).mpr z))] at e
           first
           | (rw [if_pos ((lg_cmp_gt _ _).mp c_81), if_pos ((lg_cmp_gt _ _).mp c_81)] at e; exact e h _ M R)
           | (rw [if_neg (fun z => c_81 ((lg_cmp_gt _ _).mpr z)), if_neg (fun z => c_81 ((lg_cmp_gt _ _).mpr z))] at e
              exact e _ _ (M.u rfl) (R.u (by omega))))
    · refine ok_lload dX5_lays_75 rfl ?_
      refine ok_ldc2 dX5_lays_77 w_1185 ?_
      refine ok_lcmp dX5_lays_80 ?_
      refine ok_if_gt (tgt := 96) dX5_lays_81 (by decide) (fun c_81 => ?_) (fun c_81 => ?_)
      · refine ok_iinc (v := _ + 1) (lo' := [_, _, _, _, _, _]) dX5_lays_96 rfl rfl (Nat.le_of_ble_eq_true rfl) rfl rfl ?_
        refine ok_goto (tgt := 35) dX5_lays_99 (by decide) ?_
        rw [nI_1]
        first
          | (rw [if_pos ((lg_cmp_lt _ _).mp c_72), if_pos ((lg_cmp_lt _ _).mp c_72)] at e; exact e h _ M R)
          | (rw [if_neg (fun z => c_72 ((lg_cmp_lt _ _).mpr z)), if_neg (fun z => c_72 ((lg_cmp_lt _ _).mpr z))] at e
             first
             | (rw [if_pos ((lg_cmp_gt _ _).mp c_81), if_pos ((lg_cmp_gt _ _).mp c_81)] at e; exact e h _ M R)
             | (rw [if_neg (fun z => c_81 ((lg_cmp_gt _ _).mpr z)), if_neg (fun z => c_81 ((lg_cmp_gt _ _).mpr z))] at e
                exact e _ _ (M.u rfl) (R.u (by omega))))
      · refine ok_aload_n dX5_lays_84 rfl rfl ?_
        refine ok_iload_n dX5_lays_85 rfl rfl ?_
        refine ok_iconst (v := 1) dX5_lays_86 (by decide) ?_
        refine ok_lload dX5_lays_87 rfl ?_
        refine ok_l2i dX5_lays_89 ?_
        refine ok_callV (M' := mX5_sets) (b' := (0, 0)) (As := [_, _, _]) (cx := 5) dX5_lays_90 iX5_sets w_859 (by decide) rfl (by first | exact is_lit hv (by decide) rfl | exact is_sq hv hq | exact is_row hv hq | exact is_pn hv hq (by assumption) | assumption) rfl (Nat.le_of_ble_eq_true rfl) ⟨Nat.le_of_ble_eq_true rfl, Nat.le_of_ble_eq_true rfl⟩ (Nat.le_of_ble_eq_true rfl) rfl rfl ?_
        refine sp_X5_sets (p := i) (f := 1) hv (by omega) (by decide) _ ?_
        refine ok_iinc (v := _ + 1) (lo' := [_, _, _, _, _, _]) dX5_lays_93 rfl rfl (Nat.le_of_ble_eq_true rfl) rfl rfl ?_
        refine ok_iinc (v := _ + 1) (lo' := [_, _, _, _, _, _]) dX5_lays_96 rfl rfl (Nat.le_of_ble_eq_true rfl) rfl rfl ?_
        refine ok_goto (tgt := 35) dX5_lays_99 (by decide) ?_
        rw [nI_1]
        first
          | (rw [if_pos ((lg_cmp_lt _ _).mp c_72), if_pos ((lg_cmp_lt _ _).mp c_72)] at e; exact e h _ M R)
          | (rw [if_neg (fun z => c_72 ((lg_cmp_lt _ _).mpr z)), if_neg (fun z => c_72 ((lg_cmp_lt _ _).mpr z))] at e
             first
             | (rw [if_pos ((lg_cmp_gt _ _).mp c_81), if_pos ((lg_cmp_gt _ _).mp c_81)] at e; exact e h _ M R)
             | (rw [if_neg (fun z => c_81 ((lg_cmp_gt _ _).mpr z)), if_neg (fun z => c_81 ((lg_cmp_gt _ _).mpr z))] at e
                exact e _ _ (M.u rfl) (R.u (by omega))))
theorem sp_X5_lays {g : GG} {h : Hp} {Post : Option Value → Hp → Prop} (hv : Inv h) {n : Nat} {r : Nat → Int32} (R : RM 50 h n r) {s : Nat} (hs : s < 4) {b : Int32} (eb : hI h 56 s = b) (hm : ¬ b = 0) {z : Nat} (hz : z ≤ 40) (ez : hI h 57 s = nI z) {L : Nat → Int64} (hL0 : ∀ j, j < 40 → hL h 58 (40 * s + j) = L j) (K : ∀ h', QR h h' → RM 50 h' n (w_lays r L (min z n)) → Post (some (.int (w_came L (min z n)))) h') : Sp g mX5_lays [.ref 49, .int (nI s)] h Post := by
  show Go g mX5_lays 0 [_, _, _, _, _, _] [] _ _ _
  refine ok_iload_n dX5_lays_0 rfl rfl ?_
  refine ok_callS (M' := mX5_isSheet) (b' := (0, 0)) (As := [_]) dX5_lays_1 iX5_isSheet w_1162 rfl (Nat.le_of_ble_eq_true rfl) ⟨Nat.le_of_ble_eq_true rfl, Nat.le_of_ble_eq_true rfl⟩ (Nat.le_of_ble_eq_true rfl) rfl rfl ?_
  refine sp_X5_isSheet _ ?_
  rw [sm_ok s hs]
  refine ok_if_ne (tgt := 14) dX5_lays_4 (by decide) (fun _ => ?_) (fun c9 => absurd c9 (by decide))
  refine ok_aload_n dX5_lays_14 rfl rfl ?_
  refine ok_getR dX5_lays_15 f_X5_28 (by first | exact is_lit hv (by decide) rfl | exact is_sq hv hq | exact is_row hv hq | exact is_pn hv hq (by assumption) | assumption) rfl (by first | exact rf hv rfl | exact rf_row hv hq | assumption) ?_
  refine ok_iload_n dX5_lays_18 rfl rfl ?_
  refine ok_iaload dX5_lays_19 (is_lit hv (by decide) rfl) (vp_in_nI hs (by decide)) ?_
  rw [nI_clamp (by omega)]
  rw [eb]
  refine ok_if_ne (tgt := 31) dX5_lays_20 (by decide) (fun _ => ?_) (fun c9 => absurd c9 hm)
  refine ok_iconst (v := 0) dX5_lays_31 (by decide) ?_
  refine ok_istore_n (lo' := [_, _, _, _, _, _]) dX5_lays_32 rfl (Nat.le_of_ble_eq_true rfl) rfl rfl ?_
  refine ok_iconst (v := 0) dX5_lays_33 (by decide) ?_
  refine ok_istore_n (lo' := [_, _, _, _, _, _]) dX5_lays_34 rfl (Nat.le_of_ble_eq_true rfl) rfl rfl ?_
  exact lp_X5_lays_35 hv R.1 hs hz ez hL0 K (min z n) 0 h _ (by omega) QR.rf R
theorem sp_X5_book_b {g : GG} {h : Hp} {Post : Option Value → Hp → Prop} (hv : Inv h) (v : Int32) (hb : v < 0 ∨ 4 ≤ v) (K : Post (some (.int (-1000000001))) (hfm h 0)) : Sp g mX5_book [.ref 49, .int v] h Post := by
  show Go g mX5_book 0 [_, _, _, _, _] [] _ _ _
  refine ok_iload_n dX5_book_0 rfl rfl ?_
  refine ok_callS (M' := mX5_isSheet) (b' := (0, 0)) (As := [_]) dX5_book_1 iX5_isSheet w_1162 rfl (Nat.le_of_ble_eq_true rfl) ⟨Nat.le_of_ble_eq_true rfl, Nat.le_of_ble_eq_true rfl⟩ (Nat.le_of_ble_eq_true rfl) rfl rfl ?_
  refine sp_X5_isSheet _ ?_
  rw [sm_bad hb]
  refine ok_if_ne (tgt := 12) dX5_book_4 (by decide) (fun c9 => absurd c9 (fun c => c rfl)) (fun _ => ?_)
  refine ok_ldc dX5_book_7 w_849 ?_
  refine ok_goto (tgt := 45) dX5_book_9 (by decide) ?_
  refine ok_istore_n (lo' := [_, _, _, _, _]) dX5_book_45 rfl (Nat.le_of_ble_eq_true rfl) rfl rfl ?_
  refine ok_iload_n dX5_book_46 rfl rfl ?_
  refine ok_if_eq (tgt := 56) dX5_book_47 (by decide) (fun c9 => absurd c9 (by decide)) (fun _ => ?_)
  refine ok_aload_n dX5_book_50 rfl rfl ?_
  refine ok_iload_n dX5_book_51 rfl rfl ?_
  refine ok_callV (M' := mX5_finds) (b' := (0, 0)) (As := [_]) (cx := 5) dX5_book_52 iX5_finds w_850 (by decide) rfl (by first | exact is_lit hv (by decide) rfl | exact is_sq hv hq | exact is_row hv hq | exact is_pn hv hq (by assumption) | assumption) rfl (Nat.le_of_ble_eq_true rfl) ⟨Nat.le_of_ble_eq_true rfl, Nat.le_of_ble_eq_true rfl⟩ (Nat.le_of_ble_eq_true rfl) rfl rfl ?_
  refine sp_X5_finds hv (k := 0) (by decide) (by decide) ?_
  refine ok_ireturn dX5_book_55 rfl rfl ?_
  first | exact K | (simp only [↓reduceIte] at K; exact K)
theorem sp_X5_book_m {g : GG} {h : Hp} {Post : Option Value → Hp → Prop} (hv : Inv h) {s : Nat} (hs : s < 4) {b : Int32} (eb : hI h 56 s = b) (hm : b = 0) (K : Post (some (.int (-1000000006))) (hfm h 5)) : Sp g mX5_book [.ref 49, .int (nI s)] h Post := by
  show Go g mX5_book 0 [_, _, _, _, _] [] _ _ _
  refine ok_iload_n dX5_book_0 rfl rfl ?_
  refine ok_callS (M' := mX5_isSheet) (b' := (0, 0)) (As := [_]) dX5_book_1 iX5_isSheet w_1162 rfl (Nat.le_of_ble_eq_true rfl) ⟨Nat.le_of_ble_eq_true rfl, Nat.le_of_ble_eq_true rfl⟩ (Nat.le_of_ble_eq_true rfl) rfl rfl ?_
  refine sp_X5_isSheet _ ?_
  rw [sm_ok s hs]
  refine ok_if_ne (tgt := 12) dX5_book_4 (by decide) (fun _ => ?_) (fun c9 => absurd c9 (by decide))
  refine ok_aload_n dX5_book_12 rfl rfl ?_
  refine ok_getR dX5_book_13 f_X5_28 (by first | exact is_lit hv (by decide) rfl | exact is_sq hv hq | exact is_row hv hq | exact is_pn hv hq (by assumption) | assumption) rfl (by first | exact rf hv rfl | exact rf_row hv hq | assumption) ?_
  refine ok_iload_n dX5_book_16 rfl rfl ?_
  refine ok_iaload dX5_book_17 (is_lit hv (by decide) rfl) (vp_in_nI hs (by decide)) ?_
  rw [nI_clamp (by omega)]
  rw [eb]
  refine ok_if_ne (tgt := 27) dX5_book_18 (by decide) (fun c9 => absurd c9 (fun c => c hm)) (fun _ => ?_)
  refine ok_ldcw dX5_book_21 w_1169 ?_
  refine ok_goto (tgt := 45) dX5_book_24 (by decide) ?_
  refine ok_istore_n (lo' := [_, _, _, _, _]) dX5_book_45 rfl (Nat.le_of_ble_eq_true rfl) rfl rfl ?_
  refine ok_iload_n dX5_book_46 rfl rfl ?_
  refine ok_if_eq (tgt := 56) dX5_book_47 (by decide) (fun c9 => absurd c9 (by decide)) (fun _ => ?_)
  refine ok_aload_n dX5_book_50 rfl rfl ?_
  refine ok_iload_n dX5_book_51 rfl rfl ?_
  refine ok_callV (M' := mX5_finds) (b' := (0, 0)) (As := [_]) (cx := 5) dX5_book_52 iX5_finds w_850 (by decide) rfl (by first | exact is_lit hv (by decide) rfl | exact is_sq hv hq | exact is_row hv hq | exact is_pn hv hq (by assumption) | assumption) rfl (Nat.le_of_ble_eq_true rfl) ⟨Nat.le_of_ble_eq_true rfl, Nat.le_of_ble_eq_true rfl⟩ (Nat.le_of_ble_eq_true rfl) rfl rfl ?_
  refine sp_X5_finds hv (k := 5) (by decide) (by decide) ?_
  refine ok_ireturn dX5_book_55 rfl rfl ?_
  first | exact K | (simp only [↓reduceIte] at K; exact K)
theorem sp_X5_book_s {g : GG} {h : Hp} {Post : Option Value → Hp → Prop} (hv : Inv h) {n : Nat} {r : Nat → Int32} (R : RM 50 h n r) {s : Nat} (hs : s < 4) {b : Int32} (eb : hI h 56 s = b) (hm : ¬ b = 0) (hh : ¬ r 5 ≤ 9959) (K : Post (some (.int (-1000000005))) (hfm h 4)) : Sp g mX5_book [.ref 49, .int (nI s)] h Post := by
  show Go g mX5_book 0 [_, _, _, _, _] [] _ _ _
  refine ok_iload_n dX5_book_0 rfl rfl ?_
  refine ok_callS (M' := mX5_isSheet) (b' := (0, 0)) (As := [_]) dX5_book_1 iX5_isSheet w_1162 rfl (Nat.le_of_ble_eq_true rfl) ⟨Nat.le_of_ble_eq_true rfl, Nat.le_of_ble_eq_true rfl⟩ (Nat.le_of_ble_eq_true rfl) rfl rfl ?_
  refine sp_X5_isSheet _ ?_
  rw [sm_ok s hs]
  refine ok_if_ne (tgt := 12) dX5_book_4 (by decide) (fun _ => ?_) (fun c9 => absurd c9 (by decide))
  refine ok_aload_n dX5_book_12 rfl rfl ?_
  refine ok_getR dX5_book_13 f_X5_28 (by first | exact is_lit hv (by decide) rfl | exact is_sq hv hq | exact is_row hv hq | exact is_pn hv hq (by assumption) | assumption) rfl (by first | exact rf hv rfl | exact rf_row hv hq | assumption) ?_
  refine ok_iload_n dX5_book_16 rfl rfl ?_
  refine ok_iaload dX5_book_17 (is_lit hv (by decide) rfl) (vp_in_nI hs (by decide)) ?_
  rw [nI_clamp (by omega)]
  rw [eb]
  refine ok_if_ne (tgt := 27) dX5_book_18 (by decide) (fun _ => ?_) (fun c9 => absurd c9 hm)
  refine ok_aload_n dX5_book_27 rfl rfl ?_
  refine ok_getR dX5_book_28 f_X5_7 (by first | exact is_lit hv (by decide) rfl | exact is_sq hv hq | exact is_row hv hq | exact is_pn hv hq (by assumption) | assumption) rfl (by first | exact rf hv rfl | exact rf_row hv hq | assumption) ?_
  refine ok_iconst (v := 5) dX5_book_31 (by decide) ?_
  refine ok_iaload dX5_book_32 (is_lit hv (by decide) rfl) (by unfold vp_in; decide) ?_
  rw [show hI h 50 (Int32.toNatClampNeg 5) = r 5 from R.2.2.1 5 (by decide)]
  refine ok_sipush (v := 9959) dX5_book_33 (by decide) ?_
  refine ok_icmp_le (tgt := 44) dX5_book_36 (by decide) (fun c9 => absurd c9 hh) (fun _ => ?_)
  refine ok_ldc dX5_book_39 w_938 ?_
  refine ok_goto (tgt := 45) dX5_book_41 (by decide) ?_
  refine ok_istore_n (lo' := [_, _, _, _, _]) dX5_book_45 rfl (Nat.le_of_ble_eq_true rfl) rfl rfl ?_
  refine ok_iload_n dX5_book_46 rfl rfl ?_
  refine ok_if_eq (tgt := 56) dX5_book_47 (by decide) (fun c9 => absurd c9 (by decide)) (fun _ => ?_)
  refine ok_aload_n dX5_book_50 rfl rfl ?_
  refine ok_iload_n dX5_book_51 rfl rfl ?_
  refine ok_callV (M' := mX5_finds) (b' := (0, 0)) (As := [_]) (cx := 5) dX5_book_52 iX5_finds w_850 (by decide) rfl (by first | exact is_lit hv (by decide) rfl | exact is_sq hv hq | exact is_row hv hq | exact is_pn hv hq (by assumption) | assumption) rfl (Nat.le_of_ble_eq_true rfl) ⟨Nat.le_of_ble_eq_true rfl, Nat.le_of_ble_eq_true rfl⟩ (Nat.le_of_ble_eq_true rfl) rfl rfl ?_
  refine sp_X5_finds hv (k := 4) (by decide) (by decide) ?_
  refine ok_ireturn dX5_book_55 rfl rfl ?_
  first | exact K | (simp only [↓reduceIte] at K; exact K)
/-- what stays of the reference while it books -/
def BkM (s i : Nat) (v : Nat → Int64) (h0 h : Hp) : Prop := h.2.2 = h0.2.2 ∧ (∀ a, a ≠ 49 → a ≠ 50 → a ≠ 52 → a ≠ 53 → h.1 a = h0.1 a) ∧ (∀ q j, hL h q j = if q = 58 ∧ 40 * s ≤ j ∧ j < 40 * s + i then v (j - 40 * s) else hL h0 q j) ∧ h.1 49 7 = h0.1 49 7 ∧ h.1 49 20 = h0.1 49 20
theorem BkM.rf {s : Nat} {v : Nat → Int64} {h : Hp} : BkM s 0 v h h := ⟨rfl, fun _ _ _ _ _ => rfl, fun q j => (if_neg (by omega)).symm, rfl, rfl⟩
theorem BkM.next {s i : Nat} {v : Nat → Int64} {h0 h h2 : Hp} (B : BkM s i v h0 h) (F : QM h h2) : BkM s (i + 1) v h0 (uL h2 58 (40 * s + i) (v i)) := by
  refine ⟨F.1.trans B.1, fun a h1 h3 h4 h5 => (F.2.1 a h1 h3 h4 h5).trans (B.2.1 a h1 h3 h4 h5), fun q j => ?_, F.2.2.2.1.trans B.2.2.2.1, F.2.2.2.2.trans B.2.2.2.2⟩
  show (if q = 58 ∧ j = 40 * s + i then v i else hL h2 q j) = _
  rw [show hL h2 = hL h from F.2.2.1, B.2.2.1 q j]
  by_cases e : q = 58 ∧ j = 40 * s + i
  · rw [if_pos e, if_pos (by omega), e.2, show 40 * s + i - 40 * s = i by omega]
  · rw [if_neg e]
    by_cases e2 : q = 58 ∧ 40 * s ≤ j ∧ j < 40 * s + i
    · rw [if_pos e2, if_pos (by omega)]
    · rw [if_neg e2, if_neg (by omega)]
theorem BkM.inv {s i : Nat} {v : Nat → Int64} {h0 h : Hp} (B : BkM s i v h0 h) (hv : Inv h0) : Inv h := by show InvR h.2.2; rw [B.1]; exact hv
/-- the reference after it has booked -/
def BkL (s i : Nat) (v : Nat → Int64) (h0 h : Hp) : Prop := h.2.2 = h0.2.2 ∧ (∀ a, a ≠ 49 → a ≠ 50 → a ≠ 52 → a ≠ 53 → a ≠ 54 → h.1 a = h0.1 a) ∧ (∀ q j, hL h q j = if q = 58 ∧ 40 * s ≤ j ∧ j < 40 * s + i then v (j - 40 * s) else hL h0 q j) ∧ h.1 49 7 = h0.1 49 7 ∧ h.1 49 20 = h0.1 49 20
theorem BkM.bl {s i : Nat} {v : Nat → Int64} {h0 h : Hp} (B : BkM s i v (cpI h0 50 54 77) h) : BkL s i v h0 (cpI h 54 50 77) := ⟨B.1, fun a h1 h2 h3 h4 h5 => (cpI_f h2).trans ((B.2.1 a h1 h2 h3 h4).trans (cpI_f h5)), B.2.2.1, (cpI_o (by decide)).trans (B.2.2.2.1.trans (cpI_o (by decide))), (cpI_o (by decide)).trans (B.2.2.2.2.trans (cpI_o (by decide)))⟩
theorem lp_X5_book_70 {g : GG} {h0 : Hp} {Post : Option Value → Hp → Prop} (hv0 : Inv h0) {n : Nat} {r : Nat → Int32} (G0 : RG r n) (R0 : RM 50 h0 n r) {s : Nat} (hs : s < 4) {b : Int32} (eb0 : hI h0 56 s = b) {z : Nat} (hz : z ≤ 40) (ez0 : hI h0 57 s = nI z) (K : ∀ h', BkL s z (fun j => w_nar b (w_hrs r n (j + 1) 6).toInt64) h0 h' → RM 50 h' n r → Post (some (.int (nI z))) h') : ∀ (k i : Nat) (h : Hp), i + k = z → BkM s i (fun j => w_nar b (w_hrs r n (j + 1) 6).toInt64) (cpI h0 50 54 77) h → RM 50 h n (w_hrs r n i) → Go g mX5_book 70 [some (.ref 49), some (.int (nI s)), some (.int 0), some (.int (w_fls r n i)), some (.int (nI i))] [] h (0, 0) Post := by
  intro k
  induction k with
  | zero =>
    intro i h hik M R
    obtain rfl : i = z := by omega
    have hv : Inv h := M.inv (show Inv (cpI h0 50 54 77) from hv0)
    have ez : hI h 57 s = nI i := (congrFun ((M.2.1 57 (by decide) (by decide) (by decide) (by decide)).trans (cpI_f (by decide))) s).trans ez0
    have eb : hI h 56 s = b := (congrFun ((M.2.1 56 (by decide) (by decide) (by decide) (by decide)).trans (cpI_f (by decide))) s).trans eb0
    refine ok_iload dX5_book_70 rfl ?_
    refine ok_aload_n dX5_book_72 rfl rfl ?_
    refine ok_getR dX5_book_73 f_X5_31 (by first | exact is_lit hv (by decide) rfl | exact is_sq hv hq | exact is_row hv hq | exact is_pn hv hq (by assumption) | assumption) rfl (by first | exact rf hv rfl | exact rf_row hv hq | assumption) ?_
    refine ok_iload_n dX5_book_76 rfl rfl ?_
    refine ok_iaload dX5_book_77 (is_lit hv (by decide) rfl) (vp_in_nI hs (by decide)) ?_
    rw [nI_clamp (by omega)]
    rw [ez]
    refine ok_icmp_ge (tgt := 123) dX5_book_78 (by decide) (fun _ => ?_) (fun c9 => absurd (nI_le (Nat.le_refl _) (by omega)) c9)
    refine ok_aload_n dX5_book_123 rfl rfl ?_
    refine ok_iconst (v := 0) dX5_book_124 (by decide) ?_
    refine ok_aload_n dX5_book_125 rfl rfl ?_
    refine ok_getR dX5_book_126 f_X5_22 (by first | exact is_lit hv (by decide) rfl | exact is_sq hv hq | exact is_row hv hq | exact is_pn hv hq (by assumption) | assumption) rfl (by first | exact rf hv rfl | exact rf_row hv hq | assumption) ?_
    refine ok_callV (M' := mX5_moveAll) (b' := (0, 0)) (As := [_, _]) (cx := 5) dX5_book_129 iX5_moveAll w_992 (by decide) rfl (by first | exact is_lit hv (by decide) rfl | exact is_sq hv hq | exact is_row hv hq | exact is_pn hv hq (by assumption) | assumption) rfl (Nat.le_of_ble_eq_true rfl) ⟨Nat.le_of_ble_eq_true rfl, Nat.le_of_ble_eq_true rfl⟩ (Nat.le_of_ble_eq_true rfl) rfl rfl ?_
    have e54 : RM 54 h n r := (R0.cp (d := 54)).fr (M.2.1 54 (by decide) (by decide) (by decide) (by decide))
    refine sp_X5_moveAll_r hv sto1 ?_
    have RL : RM 50 (cpI h 54 50 77) n r := e54.cp
    have hv : Inv (cpI h 54 50 77) := hv
    refine ok_iload_n dX5_book_132 rfl rfl ?_
    refine ok_if_ge (tgt := 140) dX5_book_133 (by decide) (fun _ => ?_) (fun c9 => absurd (by have := (fls_in (r := r) R.1 i (by omega)).1; rw [i_le]; exact this) c9)
    refine ok_aload_n dX5_book_140 rfl rfl ?_
    refine ok_getR dX5_book_141 f_X5_31 (by first | exact is_lit hv (by decide) rfl | exact is_sq hv hq | exact is_row hv hq | exact is_pn hv hq (by assumption) | assumption) rfl (by first | exact rf hv rfl | exact rf_row hv hq | assumption) ?_
    refine ok_iload_n dX5_book_144 rfl rfl ?_
    refine ok_iaload dX5_book_145 (is_lit hv (by decide) rfl) (vp_in_nI hs (by decide)) ?_
    rw [nI_clamp (by omega), show hI (cpI h 54 50 77) 57 s = hI h 57 s from cpI_o (by decide), ez]
    refine ok_ireturn dX5_book_146 rfl rfl ?_
    exact K _ M.bl RL
  | succ k ih =>
    intro i h hik M R
    have hi : i < z := by omega
    have hv : Inv h := M.inv (show Inv (cpI h0 50 54 77) from hv0)
    have ez : hI h 57 s = nI z := (congrFun ((M.2.1 57 (by decide) (by decide) (by decide) (by decide)).trans (cpI_f (by decide))) s).trans ez0
    have eb : hI h 56 s = b := (congrFun ((M.2.1 56 (by decide) (by decide) (by decide) (by decide)).trans (cpI_f (by decide))) s).trans eb0
    have G := G0.hrs i
    refine ok_iload dX5_book_70 rfl ?_
    refine ok_aload_n dX5_book_72 rfl rfl ?_
    refine ok_getR dX5_book_73 f_X5_31 (by first | exact is_lit hv (by decide) rfl | exact is_sq hv hq | exact is_row hv hq | exact is_pn hv hq (by assumption) | assumption) rfl (by first | exact rf hv rfl | exact rf_row hv hq | assumption) ?_
    refine ok_iload_n dX5_book_76 rfl rfl ?_
    refine ok_iaload dX5_book_77 (is_lit hv (by decide) rfl) (vp_in_nI hs (by decide)) ?_
    rw [nI_clamp (by omega)]
    rw [ez]
    refine ok_icmp_ge (tgt := 123) dX5_book_78 (by decide) (fun c9 => absurd c9 (nI_ge hi (by omega))) (fun _ => ?_)
    refine ok_iload_n dX5_book_81 rfl rfl ?_
    refine ok_aload_n dX5_book_82 rfl rfl ?_
    refine ok_callV (M' := mX5_anHour) (b' := (0, 0)) (As := []) (cx := 5) dX5_book_83 iX5_anHour w_939 (by decide) rfl (by first | exact is_lit hv (by decide) rfl | exact is_sq hv hq | exact is_row hv hq | exact is_pn hv hq (by assumption) | assumption) rfl (Nat.le_of_ble_eq_true rfl) ⟨Nat.le_of_ble_eq_true rfl, Nat.le_of_ble_eq_true rfl⟩ (Nat.le_of_ble_eq_true rfl) rfl rfl ?_
    refine sp_X5_anHour hv R G (fun h1 M1 R1 => ?_)
    have hv := M1.inv hv
    have eb1 : hI h1 56 s = b := (congrFun (M1.2.1 56 (by decide) (by decide) (by decide) (by decide)) s).trans eb
    refine ok_iadd dX5_book_86 ?_
    refine ok_istore_n (lo' := [_, _, _, _, _]) dX5_book_87 rfl (Nat.le_of_ble_eq_true rfl) rfl rfl ?_
    refine ok_aload_n dX5_book_88 rfl rfl ?_
    refine ok_getR dX5_book_89 f_X5_34 (by first | exact is_lit hv (by decide) rfl | exact is_sq hv hq | exact is_row hv hq | exact is_pn hv hq (by assumption) | assumption) rfl (by first | exact rf hv rfl | exact rf_row hv hq | assumption) ?_
    refine ok_bipush (v := 40) dX5_book_92 (by decide) ?_
    refine ok_iload_n dX5_book_94 rfl rfl ?_
    refine ok_imul dX5_book_95 ?_
    refine ok_iload dX5_book_96 rfl ?_
    refine ok_iadd dX5_book_98 ?_
    rw [ix40 s hs i (by omega)]
    refine ok_aload_n dX5_book_99 rfl rfl ?_
    refine ok_getR dX5_book_100 f_X5_28 (by first | exact is_lit hv (by decide) rfl | exact is_sq hv hq | exact is_row hv hq | exact is_pn hv hq (by assumption) | assumption) rfl (by first | exact rf hv rfl | exact rf_row hv hq | assumption) ?_
    refine ok_iload_n dX5_book_103 rfl rfl ?_
    refine ok_iaload dX5_book_104 (is_lit hv (by decide) rfl) (vp_in_nI hs (by decide)) ?_
    rw [nI_clamp (by omega), eb1]
    refine ok_aload_n dX5_book_105 rfl rfl ?_
    refine ok_getR dX5_book_106 f_X5_7 (by first | exact is_lit hv (by decide) rfl | exact is_sq hv hq | exact is_row hv hq | exact is_pn hv hq (by assumption) | assumption) rfl (by first | exact rf hv rfl | exact rf_row hv hq | assumption) ?_
    refine ok_bipush (v := 6) dX5_book_109 (by decide) ?_
    refine ok_iaload dX5_book_111 (is_lit hv (by decide) rfl) (by unfold vp_in; decide) ?_
    rw [show hI h1 50 (Int32.toNatClampNeg 6) = w_hrs r n (i + 1) 6 from R1.2.2.1 6 (by decide)]
    refine ok_i2l dX5_book_112 ?_
    refine ok_callS (M' := mX5_narrow) (b' := (0, 0)) (As := [_, _]) dX5_book_113 iX5_narrow w_1170 rfl (Nat.le_of_ble_eq_true rfl) ⟨Nat.le_of_ble_eq_true rfl, Nat.le_of_ble_eq_true rfl⟩ (Nat.le_of_ble_eq_true rfl) rfl rfl ?_
    refine sp_X5_narrow _ _ ?_
    refine ok_lastore dX5_book_116 (is_lit hv (by decide) rfl) (vp_in_nI (by omega) (by decide)) ?_
    rw [nI_clamp (by omega)]
    refine ok_iinc (v := _ + 1) (lo' := [_, _, _, _, _]) dX5_book_117 rfl rfl (Nat.le_of_ble_eq_true rfl) rfl rfl ?_
    refine ok_goto (tgt := 70) dX5_book_120 (by decide) ?_
    rw [nI_1]
    exact ih (i + 1) _ (by omega) (M.next M1) R1
theorem sp_X5_book {g : GG} {h : Hp} {Post : Option Value → Hp → Prop} (hv : Inv h) {n : Nat} {r : Nat → Int32} (R : RM 50 h n r) (G : RG r n) {s : Nat} (hs : s < 4) {b : Int32} (eb : hI h 56 s = b) (hm : ¬ b = 0) {z : Nat} (hz : z ≤ 40) (ez : hI h 57 s = nI z) (hh : r 5 ≤ 9959) (K : ∀ h', BkL s z (fun j => w_nar b (w_hrs r n (j + 1) 6).toInt64) h h' → RM 50 h' n r → Post (some (.int (nI z))) h') : Sp g mX5_book [.ref 49, .int (nI s)] h Post := by
  show Go g mX5_book 0 [_, _, _, _, _] [] _ _ _
  refine ok_iload_n dX5_book_0 rfl rfl ?_
  refine ok_callS (M' := mX5_isSheet) (b' := (0, 0)) (As := [_]) dX5_book_1 iX5_isSheet w_1162 rfl (Nat.le_of_ble_eq_true rfl) ⟨Nat.le_of_ble_eq_true rfl, Nat.le_of_ble_eq_true rfl⟩ (Nat.le_of_ble_eq_true rfl) rfl rfl ?_
  refine sp_X5_isSheet _ ?_
  rw [sm_ok s hs]
  refine ok_if_ne (tgt := 12) dX5_book_4 (by decide) (fun _ => ?_) (fun c9 => absurd c9 (by decide))
  refine ok_aload_n dX5_book_12 rfl rfl ?_
  refine ok_getR dX5_book_13 f_X5_28 (by first | exact is_lit hv (by decide) rfl | exact is_sq hv hq | exact is_row hv hq | exact is_pn hv hq (by assumption) | assumption) rfl (by first | exact rf hv rfl | exact rf_row hv hq | assumption) ?_
  refine ok_iload_n dX5_book_16 rfl rfl ?_
  refine ok_iaload dX5_book_17 (is_lit hv (by decide) rfl) (vp_in_nI hs (by decide)) ?_
  rw [nI_clamp (by omega)]
  rw [eb]
  refine ok_if_ne (tgt := 27) dX5_book_18 (by decide) (fun _ => ?_) (fun c9 => absurd c9 hm)
  refine ok_aload_n dX5_book_27 rfl rfl ?_
  refine ok_getR dX5_book_28 f_X5_7 (by first | exact is_lit hv (by decide) rfl | exact is_sq hv hq | exact is_row hv hq | exact is_pn hv hq (by assumption) | assumption) rfl (by first | exact rf hv rfl | exact rf_row hv hq | assumption) ?_
  refine ok_iconst (v := 5) dX5_book_31 (by decide) ?_
  refine ok_iaload dX5_book_32 (is_lit hv (by decide) rfl) (by unfold vp_in; decide) ?_
  rw [show hI h 50 (Int32.toNatClampNeg 5) = r 5 from R.2.2.1 5 (by decide)]
  refine ok_sipush (v := 9959) dX5_book_33 (by decide) ?_
  refine ok_icmp_le (tgt := 44) dX5_book_36 (by decide) (fun _ => ?_) (fun c9 => absurd hh c9)
  refine ok_iconst (v := 0) dX5_book_44 (by decide) ?_
  refine ok_istore_n (lo' := [_, _, _, _, _]) dX5_book_45 rfl (Nat.le_of_ble_eq_true rfl) rfl rfl ?_
  refine ok_iload_n dX5_book_46 rfl rfl ?_
  refine ok_if_eq (tgt := 56) dX5_book_47 (by decide) (fun _ => ?_) (fun c9 => absurd rfl c9)
  refine ok_aload_n dX5_book_56 rfl rfl ?_
  refine ok_iconst (v := 1) dX5_book_57 (by decide) ?_
  refine ok_aload_n dX5_book_58 rfl rfl ?_
  refine ok_getR dX5_book_59 f_X5_22 (by first | exact is_lit hv (by decide) rfl | exact is_sq hv hq | exact is_row hv hq | exact is_pn hv hq (by assumption) | assumption) rfl (by first | exact rf hv rfl | exact rf_row hv hq | assumption) ?_
  refine ok_callV (M' := mX5_moveAll) (b' := (0, 0)) (As := [_, _]) (cx := 5) dX5_book_62 iX5_moveAll w_992 (by decide) rfl (by first | exact is_lit hv (by decide) rfl | exact is_sq hv hq | exact is_row hv hq | exact is_pn hv hq (by assumption) | assumption) rfl (Nat.le_of_ble_eq_true rfl) ⟨Nat.le_of_ble_eq_true rfl, Nat.le_of_ble_eq_true rfl⟩ (Nat.le_of_ble_eq_true rfl) rfl rfl ?_
  refine sp_X5_moveAll_k hv sto1 ?_
  refine ok_iconst (v := 0) dX5_book_65 (by decide) ?_
  refine ok_istore_n (lo' := [_, _, _, _, _]) dX5_book_66 rfl (Nat.le_of_ble_eq_true rfl) rfl rfl ?_
  refine ok_iconst (v := 0) dX5_book_67 (by decide) ?_
  refine ok_istore (lo' := [_, _, _, _, _]) dX5_book_68 (Nat.le_of_ble_eq_true rfl) rfl rfl ?_
  exact lp_X5_book_70 hv G R hs eb hz ez K z 0 _ (by omega) BkM.rf (R.cs (by decide))
theorem agr_z (L : Nat → Int64) (b : Nat) : w_agr L 0 b = 1 := agr_1 (fun p hp => absurd hp (by omega))
theorem agr_s0 {L : Nat → Int64} {m b : Nat} (h : w_agr L m b = 0) : w_agr L (m + 1) b = 0 := by
  by_cases c : ∀ p, p < m + 1 → w_ok1 L b p
  · have := agr_1 (m := m) (fun p hp => c p (by omega))
    rw [this] at h
    exact absurd h (by decide)
  · unfold w_agr
    exact if_neg c
theorem agr_s1 {L : Nat → Int64} {m b : Nat} (h : ¬ w_agr L m b = 0) (c : w_ok1 L b m) : w_agr L (m + 1) b = 1 := by
  have h2 : ∀ p, p < m → w_ok1 L b p := by
    intro p hp
    by_cases e : w_ok1 L b p
    · exact e
    · exact absurd (agr_0 hp e) h
  refine agr_1 (fun p hp => ?_)
  rcases Nat.lt_or_ge p m with q | q
  · exact h2 p q
  · rw [show p = m by omega]; exact c
theorem agr_s2 {L : Nat → Int64} {m b : Nat} (c : ¬ w_ok1 L b m) : w_agr L (m + 1) b = 0 := agr_0 (Nat.lt_succ_self m) c
theorem agr_b (L : Nat → Int64) (m b : Nat) : B01 (w_agr L m b) := by
  by_cases c : ∀ p, p < m → w_ok1 L b p
  · exact Or.inr (agr_1 c)
  · left
    unfold w_agr
    exact if_neg c
theorem lp_X5_isKnown_5 {g : GG} {h : Hp} {Post : Option Value → Hp → Prop} (hv : Inv h) {n : Nat} {r : Nat → Int32} (R : RM 50 h n r) {s : Nat} (hs : s < 4) {z : Nat} (hz : z ≤ 40) (ez : hI h 57 s = nI z) {L : Nat → Int64} (hL0 : ∀ j, j < 40 → hL h 58 (40 * s + j) = L j) {b : Nat} (hb : b < 1024) (K : Post (some (.int (w_agr L (min z n) b))) h) : ∀ (k i : Nat) (x5 : Option Value), i + k = min z n → Go g mX5_isKnown 5 [some (.ref 49), some (.int (nI s)), some (.int (nI b)), some (.int (w_agr L i b)), some (.int (nI i)), x5, none] [] h (0, 0) Post := by
  have hn := R.1
  intro k
  induction k with
  | zero =>
    intro i x5 hik
    obtain rfl : i = min z n := by omega
    by_cases c : n ≤ z
    · refine ok_iload dX5_isKnown_5 rfl ?_
      refine ok_aload_n dX5_isKnown_7 rfl rfl ?_
      refine ok_getR dX5_isKnown_8 f_X5_7 (by first | exact is_lit hv (by decide) rfl | exact is_sq hv hq | exact is_row hv hq | exact is_pn hv hq (by assumption) | assumption) rfl (by first | exact rf hv rfl | exact rf_row hv hq | assumption) ?_
      refine ok_iconst (v := 0) dX5_isKnown_11 (by decide) ?_
      refine ok_iaload dX5_isKnown_12 (is_lit hv (by decide) rfl) (by unfold vp_in; decide) ?_
      rw [show hI h 50 (Int32.toNatClampNeg 0) = nI n from (R.2.2.1 0 (by decide)).trans R.2.1]
      refine ok_icmp_ge (tgt := 84) dX5_isKnown_13 (by decide) (fun _ => ?_) (fun c9 => absurd (nI_le (by omega) (by omega)) c9)
      refine ok_iload_n dX5_isKnown_84 rfl rfl ?_
      refine ok_ireturn dX5_isKnown_85 rfl (nar_b (agr_b _ _ _)) ?_
      exact K
    · refine ok_iload dX5_isKnown_5 rfl ?_
      refine ok_aload_n dX5_isKnown_7 rfl rfl ?_
      refine ok_getR dX5_isKnown_8 f_X5_7 (by first | exact is_lit hv (by decide) rfl | exact is_sq hv hq | exact is_row hv hq | exact is_pn hv hq (by assumption) | assumption) rfl (by first | exact rf hv rfl | exact rf_row hv hq | assumption) ?_
      refine ok_iconst (v := 0) dX5_isKnown_11 (by decide) ?_
      refine ok_iaload dX5_isKnown_12 (is_lit hv (by decide) rfl) (by unfold vp_in; decide) ?_
      rw [show hI h 50 (Int32.toNatClampNeg 0) = nI n from (R.2.2.1 0 (by decide)).trans R.2.1]
      refine ok_icmp_ge (tgt := 84) dX5_isKnown_13 (by decide) (fun c9 => absurd c9 (nI_ge (by omega) (by omega))) (fun _ => ?_)
      refine ok_iload dX5_isKnown_16 rfl ?_
      refine ok_aload_n dX5_isKnown_18 rfl rfl ?_
      refine ok_getR dX5_isKnown_19 f_X5_31 (by first | exact is_lit hv (by decide) rfl | exact is_sq hv hq | exact is_row hv hq | exact is_pn hv hq (by assumption) | assumption) rfl (by first | exact rf hv rfl | exact rf_row hv hq | assumption) ?_
      refine ok_iload_n dX5_isKnown_22 rfl rfl ?_
      refine ok_iaload dX5_isKnown_23 (is_lit hv (by decide) rfl) (vp_in_nI hs (by decide)) ?_
      rw [nI_clamp (by omega)]
      rw [ez]
      refine ok_icmp_ge (tgt := 84) dX5_isKnown_24 (by decide) (fun _ => ?_) (fun c9 => absurd (nI_le (by omega) (by omega)) c9)
      refine ok_iload_n dX5_isKnown_84 rfl rfl ?_
      refine ok_ireturn dX5_isKnown_85 rfl (nar_b (agr_b _ _ _)) ?_
      exact K
  | succ k ih =>
    intro i x5 hik
    have hLi : hL h 58 (40 * s + i) = L i := hL0 i (by omega)
    have e := ih (i + 1) (some (.long (L i))) (by omega)
    refine ok_iload dX5_isKnown_5 rfl ?_
    refine ok_aload_n dX5_isKnown_7 rfl rfl ?_
    refine ok_getR dX5_isKnown_8 f_X5_7 (by first | exact is_lit hv (by decide) rfl | exact is_sq hv hq | exact is_row hv hq | exact is_pn hv hq (by assumption) | assumption) rfl (by first | exact rf hv rfl | exact rf_row hv hq | assumption) ?_
    refine ok_iconst (v := 0) dX5_isKnown_11 (by decide) ?_
    refine ok_iaload dX5_isKnown_12 (is_lit hv (by decide) rfl) (by unfold vp_in; decide) ?_
    rw [show hI h 50 (Int32.toNatClampNeg 0) = nI n from (R.2.2.1 0 (by decide)).trans R.2.1]
    refine ok_icmp_ge (tgt := 84) dX5_isKnown_13 (by decide) (fun c9 => absurd c9 (nI_ge (by omega) (by omega))) (fun _ => ?_)
    refine ok_iload dX5_isKnown_16 rfl ?_
    refine ok_aload_n dX5_isKnown_18 rfl rfl ?_
    refine ok_getR dX5_isKnown_19 f_X5_31 (by first | exact is_lit hv (by decide) rfl | exact is_sq hv hq | exact is_row hv hq | exact is_pn hv hq (by assumption) | assumption) rfl (by first | exact rf hv rfl | exact rf_row hv hq | assumption) ?_
    refine ok_iload_n dX5_isKnown_22 rfl rfl ?_
    refine ok_iaload dX5_isKnown_23 (is_lit hv (by decide) rfl) (vp_in_nI hs (by decide)) ?_
    rw [nI_clamp (by omega)]
    rw [ez]
    refine ok_icmp_ge (tgt := 84) dX5_isKnown_24 (by decide) (fun c9 => absurd c9 (nI_ge (by omega) (by omega))) (fun _ => ?_)
    refine ok_aload_n dX5_isKnown_27 rfl rfl ?_
    refine ok_getR dX5_isKnown_28 f_X5_34 (by first | exact is_lit hv (by decide) rfl | exact is_sq hv hq | exact is_row hv hq | exact is_pn hv hq (by assumption) | assumption) rfl (by first | exact rf hv rfl | exact rf_row hv hq | assumption) ?_
    refine ok_bipush (v := 40) dX5_isKnown_31 (by decide) ?_
    refine ok_iload_n dX5_isKnown_33 rfl rfl ?_
    refine ok_imul dX5_isKnown_34 ?_
    refine ok_iload dX5_isKnown_35 rfl ?_
    refine ok_iadd dX5_isKnown_37 ?_
    rw [ix40 s hs i (by omega)]
    refine ok_laload dX5_isKnown_38 (is_lit hv (by decide) rfl) (vp_in_nI (by omega) (by decide)) ?_
    rw [nI_clamp (by omega), hLi]
    refine ok_lstore (lo' := [_, _, _, _, _, _, _]) dX5_isKnown_39 (Nat.le_of_ble_eq_true rfl) rfl rfl ?_
    refine ok_iload_n dX5_isKnown_41 rfl rfl ?_
    refine ok_if_eq (tgt := 76) dX5_isKnown_42 (by decide) (fun c_42 => ?_) (fun c_42 => ?_)
    · refine ok_iconst (v := 0) dX5_isKnown_76 (by decide) ?_
      refine ok_istore_n (lo' := [_, _, _, _, _, _, _]) dX5_isKnown_77 rfl (Nat.le_of_ble_eq_true rfl) rfl rfl ?_
      refine ok_iinc (v := _ + 1) (lo' := [_, _, _, _, _, _, _]) dX5_isKnown_78 rfl rfl (Nat.le_of_ble_eq_true rfl) rfl rfl ?_
      refine ok_goto (tgt := 5) dX5_isKnown_81 (by decide) ?_
      rw [nI_1]
      first
        | (rw [agr_s0 c_42] at e; exact e)
        | (rw [agr_s1 c_42 (fun z => absurd (z.resolve_left (fun q => c_49 ((lg_cmp_eq _ _).mpr q))) (fun q => c_56 ((lg_cmp_eq _ _).mpr q)))] at e; exact e)
        | (rw [agr_s1 c_42 (fun z => (lg_cmp_eq _ _).mp c_69)] at e; exact e)
        | (rw [agr_s2 (fun z => c_69 ((lg_cmp_eq _ _).mpr (z (Or.inl ((lg_cmp_eq _ _).mp c_49)))))] at e; exact e)
        | (rw [agr_s2 (fun z => c_69 ((lg_cmp_eq _ _).mpr (z (Or.inr ((lg_cmp_eq _ _).mp c_56)))))] at e; exact e)
    · refine ok_lload dX5_isKnown_45 rfl ?_
      refine ok_lconst (v := 0) dX5_isKnown_47 (by decide) ?_
      refine ok_lcmp dX5_isKnown_48 ?_
      refine ok_if_eq (tgt := 59) dX5_isKnown_49 (by decide) (fun c_49 => ?_) (fun c_49 => ?_)
      · refine ok_lload dX5_isKnown_59 rfl ?_
        refine ok_iload_n dX5_isKnown_61 rfl rfl ?_
        refine ok_iload dX5_isKnown_62 rfl ?_
        refine ok_ishr dX5_isKnown_64 ?_
        refine ok_iconst (v := 1) dX5_isKnown_65 (by decide) ?_
        refine ok_iand dX5_isKnown_66 ?_
        rw [bt_of hb (by omega)]
        refine ok_i2l dX5_isKnown_67 ?_
        refine ok_lcmp dX5_isKnown_68 ?_
        refine ok_if_ne (tgt := 76) dX5_isKnown_69 (by decide) (fun c_69 => ?_) (fun c_69 => ?_)
        · refine ok_iconst (v := 0) dX5_isKnown_76 (by decide) ?_
          refine ok_istore_n (lo' := [_, _, _, _, _, _, _]) dX5_isKnown_77 rfl (Nat.le_of_ble_eq_true rfl) rfl rfl ?_
          refine ok_iinc (v := _ + 1) (lo' := [_, _, _, _, _, _, _]) dX5_isKnown_78 rfl rfl (Nat.le_of_ble_eq_true rfl) rfl rfl ?_
          refine ok_goto (tgt := 5) dX5_isKnown_81 (by decide) ?_
          rw [nI_1]
          first
            | (rw [agr_s0 c_42] at e; exact e)
            | (rw [agr_s1 c_42 (fun z => absurd (z.resolve_left (fun q => c_49 ((lg_cmp_eq _ _).mpr q))) (fun q => c_56 ((lg_cmp_eq _ _).mpr q)))] at e; exact e)
            | (rw [agr_s1 c_42 (fun z => (lg_cmp_eq _ _).mp c_69)] at e; exact e)
            | (rw [agr_s2 (fun z => c_69 ((lg_cmp_eq _ _).mpr (z (Or.inl ((lg_cmp_eq _ _).mp c_49)))))] at e; exact e)
            | (rw [agr_s2 (fun z => c_69 ((lg_cmp_eq _ _).mpr (z (Or.inr ((lg_cmp_eq _ _).mp c_56)))))] at e; exact e)
        · refine ok_iconst (v := 1) dX5_isKnown_72 (by decide) ?_
          refine ok_goto (tgt := 77) dX5_isKnown_73 (by decide) ?_
          refine ok_istore_n (lo' := [_, _, _, _, _, _, _]) dX5_isKnown_77 rfl (Nat.le_of_ble_eq_true rfl) rfl rfl ?_
          refine ok_iinc (v := _ + 1) (lo' := [_, _, _, _, _, _, _]) dX5_isKnown_78 rfl rfl (Nat.le_of_ble_eq_true rfl) rfl rfl ?_
          refine ok_goto (tgt := 5) dX5_isKnown_81 (by decide) ?_
          rw [nI_1]
          first
            | (rw [agr_s0 c_42] at e; exact e)
            | (rw [agr_s1 c_42 (fun z => absurd (z.resolve_left (fun q => c_49 ((lg_cmp_eq _ _).mpr q))) (fun q => c_56 ((lg_cmp_eq _ _).mpr q)))] at e; exact e)
            | (rw [agr_s1 c_42 (fun z => (lg_cmp_eq _ _).mp c_69)] at e; exact e)
            | (rw [agr_s2 (fun z => c_69 ((lg_cmp_eq _ _).mpr (z (Or.inl ((lg_cmp_eq _ _).mp c_49)))))] at e; exact e)
            | (rw [agr_s2 (fun z => c_69 ((lg_cmp_eq _ _).mpr (z (Or.inr ((lg_cmp_eq _ _).mp c_56)))))] at e; exact e)
      · refine ok_lload dX5_isKnown_52 rfl ?_
        refine ok_lconst (v := 1) dX5_isKnown_54 (by decide) ?_
        refine ok_lcmp dX5_isKnown_55 ?_
        refine ok_if_ne (tgt := 72) dX5_isKnown_56 (by decide) (fun c_56 => ?_) (fun c_56 => ?_)
        · refine ok_iconst (v := 1) dX5_isKnown_72 (by decide) ?_
          refine ok_goto (tgt := 77) dX5_isKnown_73 (by decide) ?_
          refine ok_istore_n (lo' := [_, _, _, _, _, _, _]) dX5_isKnown_77 rfl (Nat.le_of_ble_eq_true rfl) rfl rfl ?_
          refine ok_iinc (v := _ + 1) (lo' := [_, _, _, _, _, _, _]) dX5_isKnown_78 rfl rfl (Nat.le_of_ble_eq_true rfl) rfl rfl ?_
          refine ok_goto (tgt := 5) dX5_isKnown_81 (by decide) ?_
          rw [nI_1]
          first
            | (rw [agr_s0 c_42] at e; exact e)
            | (rw [agr_s1 c_42 (fun z => absurd (z.resolve_left (fun q => c_49 ((lg_cmp_eq _ _).mpr q))) (fun q => c_56 ((lg_cmp_eq _ _).mpr q)))] at e; exact e)
            | (rw [agr_s1 c_42 (fun z => (lg_cmp_eq _ _).mp c_69)] at e; exact e)
            | (rw [agr_s2 (fun z => c_69 ((lg_cmp_eq _ _).mpr (z (Or.inl ((lg_cmp_eq _ _).mp c_49)))))] at e; exact e)
            | (rw [agr_s2 (fun z => c_69 ((lg_cmp_eq _ _).mpr (z (Or.inr ((lg_cmp_eq _ _).mp c_56)))))] at e; exact e)
        · refine ok_lload dX5_isKnown_59 rfl ?_
          refine ok_iload_n dX5_isKnown_61 rfl rfl ?_
          refine ok_iload dX5_isKnown_62 rfl ?_
          refine ok_ishr dX5_isKnown_64 ?_
          refine ok_iconst (v := 1) dX5_isKnown_65 (by decide) ?_
          refine ok_iand dX5_isKnown_66 ?_
          rw [bt_of hb (by omega)]
          refine ok_i2l dX5_isKnown_67 ?_
          refine ok_lcmp dX5_isKnown_68 ?_
          refine ok_if_ne (tgt := 76) dX5_isKnown_69 (by decide) (fun c_69 => ?_) (fun c_69 => ?_)
          · refine ok_iconst (v := 0) dX5_isKnown_76 (by decide) ?_
            refine ok_istore_n (lo' := [_, _, _, _, _, _, _]) dX5_isKnown_77 rfl (Nat.le_of_ble_eq_true rfl) rfl rfl ?_
            refine ok_iinc (v := _ + 1) (lo' := [_, _, _, _, _, _, _]) dX5_isKnown_78 rfl rfl (Nat.le_of_ble_eq_true rfl) rfl rfl ?_
            refine ok_goto (tgt := 5) dX5_isKnown_81 (by decide) ?_
            rw [nI_1]
            first
              | (rw [agr_s0 c_42] at e; exact e)
              | (rw [agr_s1 c_42 (fun z => absurd (z.resolve_left (fun q => c_49 ((lg_cmp_eq _ _).mpr q))) (fun q => c_56 ((lg_cmp_eq _ _).mpr q)))] at e; exact e)
              | (rw [agr_s1 c_42 (fun z => (lg_cmp_eq _ _).mp c_69)] at e; exact e)
              | (rw [agr_s2 (fun z => c_69 ((lg_cmp_eq _ _).mpr (z (Or.inl ((lg_cmp_eq _ _).mp c_49)))))] at e; exact e)
              | (rw [agr_s2 (fun z => c_69 ((lg_cmp_eq _ _).mpr (z (Or.inr ((lg_cmp_eq _ _).mp c_56)))))] at e; exact e)
          · refine ok_iconst (v := 1) dX5_isKnown_72 (by decide) ?_
            refine ok_goto (tgt := 77) dX5_isKnown_73 (by decide) ?_
            refine ok_istore_n (lo' := [_, _, _, _, _, _, _]) dX5_isKnown_77 rfl (Nat.le_of_ble_eq_true rfl) rfl rfl ?_
            refine ok_iinc (v := _ + 1) (lo' := [_, _, _, _, _, _, _]) dX5_isKnown_78 rfl rfl (Nat.le_of_ble_eq_true rfl) rfl rfl ?_
            refine ok_goto (tgt := 5) dX5_isKnown_81 (by decide) ?_
            rw [nI_1]
            first
              | (rw [agr_s0 c_42] at e; exact e)
              | (rw [agr_s1 c_42 (fun z => absurd (z.resolve_left (fun q => c_49 ((lg_cmp_eq _ _).mpr q))) (fun q => c_56 ((lg_cmp_eq _ _).mpr q)))] at e; exact e)
              | (rw [agr_s1 c_42 (fun z => (lg_cmp_eq _ _).mp c_69)] at e; exact e)
              | (rw [agr_s2 (fun z => c_69 ((lg_cmp_eq _ _).mpr (z (Or.inl ((lg_cmp_eq _ _).mp c_49)))))] at e; exact e)
              | (rw [agr_s2 (fun z => c_69 ((lg_cmp_eq _ _).mpr (z (Or.inr ((lg_cmp_eq _ _).mp c_56)))))] at e; exact e)
theorem sp_X5_isKnown {g : GG} {h : Hp} {Post : Option Value → Hp → Prop} (hv : Inv h) {n : Nat} {r : Nat → Int32} (R : RM 50 h n r) {s : Nat} (hs : s < 4) {z : Nat} (hz : z ≤ 40) (ez : hI h 57 s = nI z) {L : Nat → Int64} (hL0 : ∀ j, j < 40 → hL h 58 (40 * s + j) = L j) {b : Nat} (hb : b < 1024) (K : Post (some (.int (w_agr L (min z n) b))) h) : Sp g mX5_isKnown [.ref 49, .int (nI s), .int (nI b)] h Post := by
  show Go g mX5_isKnown 0 [_, _, _, _, _, _, _] [] _ _ _
  refine ok_iconst (v := 1) dX5_isKnown_0 (by decide) ?_
  refine ok_istore_n (lo' := [_, _, _, _, _, _, _]) dX5_isKnown_1 rfl (Nat.le_of_ble_eq_true rfl) rfl rfl ?_
  refine ok_iconst (v := 0) dX5_isKnown_2 (by decide) ?_
  refine ok_istore (lo' := [_, _, _, _, _, _, _]) dX5_isKnown_3 (Nat.le_of_ble_eq_true rfl) rfl rfl ?_
  have e := lp_X5_isKnown_5 (g := g) hv R hs hz ez hL0 hb K (min z n) 0 none (by omega)
  rw [agr_z] at e
  exact e
theorem sp_X5_read_b {g : GG} {h : Hp} {Post : Option Value → Hp → Prop} (hv : Inv h) (v k : Int32) (hb : v < 0 ∨ 4 ≤ v) (K : Post (some (.int (-1000000001))) (hfm h 0)) : Sp g mX5_read [.ref 49, .int v, .int k] h Post := by
  show Go g mX5_read 0 [_, _, _, _, _, _] [] _ _ _
  refine ok_iload_n dX5_read_0 rfl rfl ?_
  refine ok_callS (M' := mX5_isSheet) (b' := (0, 0)) (As := [_]) dX5_read_1 iX5_isSheet w_1162 rfl (Nat.le_of_ble_eq_true rfl) ⟨Nat.le_of_ble_eq_true rfl, Nat.le_of_ble_eq_true rfl⟩ (Nat.le_of_ble_eq_true rfl) rfl rfl ?_
  refine sp_X5_isSheet _ ?_
  rw [sm_bad hb]
  refine ok_if_ne (tgt := 12) dX5_read_4 (by decide) (fun c9 => absurd c9 (fun c => c rfl)) (fun _ => ?_)
  refine ok_ldc dX5_read_7 w_849 ?_
  refine ok_goto (tgt := 43) dX5_read_9 (by decide) ?_
  refine ok_istore_n (lo' := [_, _, _, _, _, _]) dX5_read_43 rfl (Nat.le_of_ble_eq_true rfl) rfl rfl ?_
  refine ok_iload_n dX5_read_44 rfl rfl ?_
  refine ok_if_eq (tgt := 54) dX5_read_45 (by decide) (fun c9 => absurd c9 (by decide)) (fun _ => ?_)
  refine ok_aload_n dX5_read_48 rfl rfl ?_
  refine ok_iload_n dX5_read_49 rfl rfl ?_
  refine ok_callV (M' := mX5_finds) (b' := (0, 0)) (As := [_]) (cx := 5) dX5_read_50 iX5_finds w_850 (by decide) rfl (by first | exact is_lit hv (by decide) rfl | exact is_sq hv hq | exact is_row hv hq | exact is_pn hv hq (by assumption) | assumption) rfl (Nat.le_of_ble_eq_true rfl) ⟨Nat.le_of_ble_eq_true rfl, Nat.le_of_ble_eq_true rfl⟩ (Nat.le_of_ble_eq_true rfl) rfl rfl ?_
  refine sp_X5_finds hv (k := 0) (by decide) (by decide) ?_
  refine ok_ireturn dX5_read_53 rfl rfl ?_
  first | exact K | (simp only [↓reduceIte] at K; exact K)
theorem sp_X5_read_m {g : GG} {h : Hp} {Post : Option Value → Hp → Prop} (hv : Inv h) {s : Nat} (hs : s < 4) {b : Int32} (eb : hI h 56 s = b) (k : Int32) (hm : b = 0) (K : Post (some (.int (-1000000006))) (hfm h 5)) : Sp g mX5_read [.ref 49, .int (nI s), .int k] h Post := by
  show Go g mX5_read 0 [_, _, _, _, _, _] [] _ _ _
  refine ok_iload_n dX5_read_0 rfl rfl ?_
  refine ok_callS (M' := mX5_isSheet) (b' := (0, 0)) (As := [_]) dX5_read_1 iX5_isSheet w_1162 rfl (Nat.le_of_ble_eq_true rfl) ⟨Nat.le_of_ble_eq_true rfl, Nat.le_of_ble_eq_true rfl⟩ (Nat.le_of_ble_eq_true rfl) rfl rfl ?_
  refine sp_X5_isSheet _ ?_
  rw [sm_ok s hs]
  refine ok_if_ne (tgt := 12) dX5_read_4 (by decide) (fun _ => ?_) (fun c9 => absurd c9 (by decide))
  refine ok_aload_n dX5_read_12 rfl rfl ?_
  refine ok_getR dX5_read_13 f_X5_28 (by first | exact is_lit hv (by decide) rfl | exact is_sq hv hq | exact is_row hv hq | exact is_pn hv hq (by assumption) | assumption) rfl (by first | exact rf hv rfl | exact rf_row hv hq | assumption) ?_
  refine ok_iload_n dX5_read_16 rfl rfl ?_
  refine ok_iaload dX5_read_17 (is_lit hv (by decide) rfl) (vp_in_nI hs (by decide)) ?_
  rw [nI_clamp (by omega)]
  rw [eb]
  refine ok_if_ne (tgt := 27) dX5_read_18 (by decide) (fun c9 => absurd c9 (fun c => c hm)) (fun _ => ?_)
  refine ok_ldcw dX5_read_21 w_1169 ?_
  refine ok_goto (tgt := 43) dX5_read_24 (by decide) ?_
  refine ok_istore_n (lo' := [_, _, _, _, _, _]) dX5_read_43 rfl (Nat.le_of_ble_eq_true rfl) rfl rfl ?_
  refine ok_iload_n dX5_read_44 rfl rfl ?_
  refine ok_if_eq (tgt := 54) dX5_read_45 (by decide) (fun c9 => absurd c9 (by decide)) (fun _ => ?_)
  refine ok_aload_n dX5_read_48 rfl rfl ?_
  refine ok_iload_n dX5_read_49 rfl rfl ?_
  refine ok_callV (M' := mX5_finds) (b' := (0, 0)) (As := [_]) (cx := 5) dX5_read_50 iX5_finds w_850 (by decide) rfl (by first | exact is_lit hv (by decide) rfl | exact is_sq hv hq | exact is_row hv hq | exact is_pn hv hq (by assumption) | assumption) rfl (Nat.le_of_ble_eq_true rfl) ⟨Nat.le_of_ble_eq_true rfl, Nat.le_of_ble_eq_true rfl⟩ (Nat.le_of_ble_eq_true rfl) rfl rfl ?_
  refine sp_X5_finds hv (k := 5) (by decide) (by decide) ?_
  refine ok_ireturn dX5_read_53 rfl rfl ?_
  first | exact K | (simp only [↓reduceIte] at K; exact K)
theorem sp_X5_read_w {g : GG} {h : Hp} {Post : Option Value → Hp → Prop} (hv : Inv h) {s : Nat} (hs : s < 4) {b : Int32} (eb : hI h 56 s = b) {k : Int32} (hm : ¬ b = 0) (hb : k < 0 ∨ 99 < k) (K : Post (some (.int (-1000000001))) (hfm h 0)) : Sp g mX5_read [.ref 49, .int (nI s), .int k] h Post := by
  show Go g mX5_read 0 [_, _, _, _, _, _] [] _ _ _
  refine ok_iload_n dX5_read_0 rfl rfl ?_
  refine ok_callS (M' := mX5_isSheet) (b' := (0, 0)) (As := [_]) dX5_read_1 iX5_isSheet w_1162 rfl (Nat.le_of_ble_eq_true rfl) ⟨Nat.le_of_ble_eq_true rfl, Nat.le_of_ble_eq_true rfl⟩ (Nat.le_of_ble_eq_true rfl) rfl rfl ?_
  refine sp_X5_isSheet _ ?_
  rw [sm_ok s hs]
  refine ok_if_ne (tgt := 12) dX5_read_4 (by decide) (fun _ => ?_) (fun c9 => absurd c9 (by decide))
  refine ok_aload_n dX5_read_12 rfl rfl ?_
  refine ok_getR dX5_read_13 f_X5_28 (by first | exact is_lit hv (by decide) rfl | exact is_sq hv hq | exact is_row hv hq | exact is_pn hv hq (by assumption) | assumption) rfl (by first | exact rf hv rfl | exact rf_row hv hq | assumption) ?_
  refine ok_iload_n dX5_read_16 rfl rfl ?_
  refine ok_iaload dX5_read_17 (is_lit hv (by decide) rfl) (vp_in_nI hs (by decide)) ?_
  rw [nI_clamp (by omega)]
  rw [eb]
  refine ok_if_ne (tgt := 27) dX5_read_18 (by decide) (fun _ => ?_) (fun c9 => absurd c9 hm)
  refine ok_iload_n dX5_read_27 rfl rfl ?_
  refine ok_iconst (v := 0) dX5_read_28 (by decide) ?_
  refine ok_bipush (v := 99) dX5_read_29 (by decide) ?_
  refine ok_callS (M' := mX5_in) (b' := (0, 0)) (As := [_, _, _]) dX5_read_31 iX5_in w_846 rfl (Nat.le_of_ble_eq_true rfl) ⟨Nat.le_of_ble_eq_true rfl, Nat.le_of_ble_eq_true rfl⟩ (Nat.le_of_ble_eq_true rfl) rfl rfl ?_
  refine sp_X5_in _ _ _ ?_
  rw [wi_bad hb]
  refine ok_if_ne (tgt := 42) dX5_read_34 (by decide) (fun c9 => absurd c9 (fun c => c rfl)) (fun _ => ?_)
  refine ok_ldc dX5_read_37 w_849 ?_
  refine ok_goto (tgt := 43) dX5_read_39 (by decide) ?_
  refine ok_istore_n (lo' := [_, _, _, _, _, _]) dX5_read_43 rfl (Nat.le_of_ble_eq_true rfl) rfl rfl ?_
  refine ok_iload_n dX5_read_44 rfl rfl ?_
  refine ok_if_eq (tgt := 54) dX5_read_45 (by decide) (fun c9 => absurd c9 (by decide)) (fun _ => ?_)
  refine ok_aload_n dX5_read_48 rfl rfl ?_
  refine ok_iload_n dX5_read_49 rfl rfl ?_
  refine ok_callV (M' := mX5_finds) (b' := (0, 0)) (As := [_]) (cx := 5) dX5_read_50 iX5_finds w_850 (by decide) rfl (by first | exact is_lit hv (by decide) rfl | exact is_sq hv hq | exact is_row hv hq | exact is_pn hv hq (by assumption) | assumption) rfl (Nat.le_of_ble_eq_true rfl) ⟨Nat.le_of_ble_eq_true rfl, Nat.le_of_ble_eq_true rfl⟩ (Nat.le_of_ble_eq_true rfl) rfl rfl ?_
  refine sp_X5_finds hv (k := 0) (by decide) (by decide) ?_
  refine ok_ireturn dX5_read_53 rfl rfl ?_
  first | exact K | (simp only [↓reduceIte] at K; exact K)
theorem lp_X5_read_60 {g : GG} {h : Hp} {Post : Option Value → Hp → Prop} (hv : Inv h) {n : Nat} {r : Nat → Int32} (R : RM 50 h n r) {s : Nat} (hs : s < 4) {z : Nat} (hz : z ≤ 40) (ez : hI h 57 s = nI z) {L : Nat → Int64} (hL0 : ∀ j, j < 40 → hL h 58 (40 * s + j) = L j) {w : Int32} (K : Post (some (.int (w_ways (r 1) L (min z n) w (2 ^ n)))) h) : ∀ (k i : Nat), i + k = 2 ^ n → Go g mX5_read 60 [some (.ref 49), some (.int (nI s)), some (.int w), some (.int 0), some (.int (w_ways (r 1) L (min z n) w i)), some (.int (nI i))] [] h (0, 0) Post := by
  intro k
  induction k with
  | zero =>
    intro i  hik 
    obtain rfl : i = 2 ^ n := by omega
    have hn := R.1
    have hp2 : 2 ^ n ≤ 2 ^ 10 := pow_le hn
    refine ok_iload dX5_read_60 rfl ?_
    refine ok_iconst (v := 1) dX5_read_62 (by decide) ?_
    refine ok_aload_n dX5_read_63 rfl rfl ?_
    refine ok_getR dX5_read_64 f_X5_7 (by first | exact is_lit hv (by decide) rfl | exact is_sq hv hq | exact is_row hv hq | exact is_pn hv hq (by assumption) | assumption) rfl (by first | exact rf hv rfl | exact rf_row hv hq | assumption) ?_
    refine ok_iconst (v := 0) dX5_read_67 (by decide) ?_
    refine ok_iaload dX5_read_68 (is_lit hv (by decide) rfl) (by unfold vp_in; decide) ?_
    rw [show hI h 50 (Int32.toNatClampNeg 0) = nI n from (R.2.2.1 0 (by decide)).trans R.2.1]
    refine ok_ishl dX5_read_69 ?_
    rw [shl_n n hn]
    refine ok_icmp_ge (tgt := 115) dX5_read_70 (by decide) (fun _ => ?_) (fun c9 => absurd (nI_le (Nat.le_refl _) (by omega)) c9)
    refine ok_iload dX5_read_115 rfl ?_
    refine ok_ireturn dX5_read_117 rfl rfl ?_
    exact K
  | succ k ih =>
    intro i  hik 
    have hi : i < 2 ^ n := by omega
    have hn := R.1
    have hp2 : 2 ^ n ≤ 2 ^ 10 := pow_le hn
    refine ok_iload dX5_read_60 rfl ?_
    refine ok_iconst (v := 1) dX5_read_62 (by decide) ?_
    refine ok_aload_n dX5_read_63 rfl rfl ?_
    refine ok_getR dX5_read_64 f_X5_7 (by first | exact is_lit hv (by decide) rfl | exact is_sq hv hq | exact is_row hv hq | exact is_pn hv hq (by assumption) | assumption) rfl (by first | exact rf hv rfl | exact rf_row hv hq | assumption) ?_
    refine ok_iconst (v := 0) dX5_read_67 (by decide) ?_
    refine ok_iaload dX5_read_68 (is_lit hv (by decide) rfl) (by unfold vp_in; decide) ?_
    rw [show hI h 50 (Int32.toNatClampNeg 0) = nI n from (R.2.2.1 0 (by decide)).trans R.2.1]
    refine ok_ishl dX5_read_69 ?_
    rw [shl_n n hn]
    refine ok_icmp_ge (tgt := 115) dX5_read_70 (by decide) (fun c9 => absurd c9 (nI_ge hi (by omega))) (fun _ => ?_)
    refine ok_iload dX5_read_73 rfl ?_
    refine ok_aload_n dX5_read_75 rfl rfl ?_
    refine ok_getR dX5_read_76 f_X5_7 (by first | exact is_lit hv (by decide) rfl | exact is_sq hv hq | exact is_row hv hq | exact is_pn hv hq (by assumption) | assumption) rfl (by first | exact rf hv rfl | exact rf_row hv hq | assumption) ?_
    refine ok_iconst (v := 1) dX5_read_79 (by decide) ?_
    refine ok_iaload dX5_read_80 (is_lit hv (by decide) rfl) (by unfold vp_in; decide) ?_
    rw [show hI h 50 (Int32.toNatClampNeg 1) = r 1 from R.2.2.1 1 (by decide)]
    refine ok_iload dX5_read_81 rfl ?_
    refine ok_callS (M' := mX5_ones) (b' := (0, 0)) (As := [_]) dX5_read_83 iX5_ones w_1071 rfl (Nat.le_of_ble_eq_true rfl) ⟨Nat.le_of_ble_eq_true rfl, Nat.le_of_ble_eq_true rfl⟩ (Nat.le_of_ble_eq_true rfl) rfl rfl ?_
    refine sp_X5_ones (show i < 1024 by omega) ?_
    refine ok_iadd dX5_read_86 ?_
    refine ok_iload_n dX5_read_87 rfl rfl ?_
    refine ok_icmp_ne (tgt := 105) dX5_read_88 (by decide) (fun c_88 => ?_) (fun c_88 => ?_)
    · refine ok_iconst (v := 0) dX5_read_105 (by decide) ?_
      refine ok_iadd dX5_read_106 ?_
      refine ok_istore (lo' := [_, _, _, _, _, _]) dX5_read_107 (Nat.le_of_ble_eq_true rfl) rfl rfl ?_
      refine ok_iinc (v := _ + 1) (lo' := [_, _, _, _, _, _]) dX5_read_109 rfl rfl (Nat.le_of_ble_eq_true rfl) rfl rfl ?_
      refine ok_goto (tgt := 60) dX5_read_112 (by decide) ?_
      rw [nI_1]
      have e := ih (i + 1) (by omega)
      rw [w_ways] at e
      first
        | (rw [if_neg c_88] at e; rw [Int32.add_zero]; exact e)
        | (rw [if_pos c_88, if_pos c_98] at e; rw [Int32.add_zero]; exact e)
        | (rw [if_pos c_88, if_neg c_98] at e; exact e)
    · refine ok_aload_n dX5_read_91 rfl rfl ?_
      refine ok_iload_n dX5_read_92 rfl rfl ?_
      refine ok_iload dX5_read_93 rfl ?_
      refine ok_callV (M' := mX5_isKnown) (b' := (0, 0)) (As := [_, _]) (cx := 5) dX5_read_95 iX5_isKnown w_1194 (by decide) rfl (by first | exact is_lit hv (by decide) rfl | exact is_sq hv hq | exact is_row hv hq | exact is_pn hv hq (by assumption) | assumption) rfl (Nat.le_of_ble_eq_true rfl) ⟨Nat.le_of_ble_eq_true rfl, Nat.le_of_ble_eq_true rfl⟩ (Nat.le_of_ble_eq_true rfl) rfl rfl ?_
      refine sp_X5_isKnown hv R hs hz ez hL0 (show i < 1024 by omega) ?_
      refine ok_if_eq (tgt := 105) dX5_read_98 (by decide) (fun c_98 => ?_) (fun c_98 => ?_)
      · refine ok_iconst (v := 0) dX5_read_105 (by decide) ?_
        refine ok_iadd dX5_read_106 ?_
        refine ok_istore (lo' := [_, _, _, _, _, _]) dX5_read_107 (Nat.le_of_ble_eq_true rfl) rfl rfl ?_
        refine ok_iinc (v := _ + 1) (lo' := [_, _, _, _, _, _]) dX5_read_109 rfl rfl (Nat.le_of_ble_eq_true rfl) rfl rfl ?_
        refine ok_goto (tgt := 60) dX5_read_112 (by decide) ?_
        rw [nI_1]
        have e := ih (i + 1) (by omega)
        rw [w_ways] at e
        first
          | (rw [if_neg c_88] at e; rw [Int32.add_zero]; exact e)
          | (rw [if_pos c_88, if_pos c_98] at e; rw [Int32.add_zero]; exact e)
          | (rw [if_pos c_88, if_neg c_98] at e; exact e)
      · refine ok_iconst (v := 1) dX5_read_101 (by decide) ?_
        refine ok_goto (tgt := 106) dX5_read_102 (by decide) ?_
        refine ok_iadd dX5_read_106 ?_
        refine ok_istore (lo' := [_, _, _, _, _, _]) dX5_read_107 (Nat.le_of_ble_eq_true rfl) rfl rfl ?_
        refine ok_iinc (v := _ + 1) (lo' := [_, _, _, _, _, _]) dX5_read_109 rfl rfl (Nat.le_of_ble_eq_true rfl) rfl rfl ?_
        refine ok_goto (tgt := 60) dX5_read_112 (by decide) ?_
        rw [nI_1]
        have e := ih (i + 1) (by omega)
        rw [w_ways] at e
        first
          | (rw [if_neg c_88] at e; rw [Int32.add_zero]; exact e)
          | (rw [if_pos c_88, if_pos c_98] at e; rw [Int32.add_zero]; exact e)
          | (rw [if_pos c_88, if_neg c_98] at e; exact e)
theorem sp_X5_read {g : GG} {h : Hp} {Post : Option Value → Hp → Prop} (hv : Inv h) {n : Nat} {r : Nat → Int32} (R : RM 50 h n r) {s : Nat} (hs : s < 4) {z : Nat} (hz : z ≤ 40) (ez : hI h 57 s = nI z) {L : Nat → Int64} (hL0 : ∀ j, j < 40 → hL h 58 (40 * s + j) = L j) {k : Int32} {b : Int32} (eb : hI h 56 s = b) (hm : ¬ b = 0) (h1 : ¬ k < 0) (h2 : ¬ 99 < k) (K : Post (some (.int (w_ways (r 1) L (min z n) k (2 ^ n)))) h) : Sp g mX5_read [.ref 49, .int (nI s), .int k] h Post := by
  show Go g mX5_read 0 [_, _, _, _, _, _] [] _ _ _
  refine ok_iload_n dX5_read_0 rfl rfl ?_
  refine ok_callS (M' := mX5_isSheet) (b' := (0, 0)) (As := [_]) dX5_read_1 iX5_isSheet w_1162 rfl (Nat.le_of_ble_eq_true rfl) ⟨Nat.le_of_ble_eq_true rfl, Nat.le_of_ble_eq_true rfl⟩ (Nat.le_of_ble_eq_true rfl) rfl rfl ?_
  refine sp_X5_isSheet _ ?_
  rw [sm_ok s hs]
  refine ok_if_ne (tgt := 12) dX5_read_4 (by decide) (fun _ => ?_) (fun c9 => absurd c9 (by decide))
  refine ok_aload_n dX5_read_12 rfl rfl ?_
  refine ok_getR dX5_read_13 f_X5_28 (by first | exact is_lit hv (by decide) rfl | exact is_sq hv hq | exact is_row hv hq | exact is_pn hv hq (by assumption) | assumption) rfl (by first | exact rf hv rfl | exact rf_row hv hq | assumption) ?_
  refine ok_iload_n dX5_read_16 rfl rfl ?_
  refine ok_iaload dX5_read_17 (is_lit hv (by decide) rfl) (vp_in_nI hs (by decide)) ?_
  rw [nI_clamp (by omega)]
  rw [eb]
  refine ok_if_ne (tgt := 27) dX5_read_18 (by decide) (fun _ => ?_) (fun c9 => absurd c9 hm)
  refine ok_iload_n dX5_read_27 rfl rfl ?_
  refine ok_iconst (v := 0) dX5_read_28 (by decide) ?_
  refine ok_bipush (v := 99) dX5_read_29 (by decide) ?_
  refine ok_callS (M' := mX5_in) (b' := (0, 0)) (As := [_, _, _]) dX5_read_31 iX5_in w_846 rfl (Nat.le_of_ble_eq_true rfl) ⟨Nat.le_of_ble_eq_true rfl, Nat.le_of_ble_eq_true rfl⟩ (Nat.le_of_ble_eq_true rfl) rfl rfl ?_
  refine sp_X5_in _ _ _ ?_
  rw [wi_ok h1 h2]
  refine ok_if_ne (tgt := 42) dX5_read_34 (by decide) (fun _ => ?_) (fun c9 => absurd c9 (by decide))
  refine ok_iconst (v := 0) dX5_read_42 (by decide) ?_
  refine ok_istore_n (lo' := [_, _, _, _, _, _]) dX5_read_43 rfl (Nat.le_of_ble_eq_true rfl) rfl rfl ?_
  refine ok_iload_n dX5_read_44 rfl rfl ?_
  refine ok_if_eq (tgt := 54) dX5_read_45 (by decide) (fun _ => ?_) (fun c9 => absurd rfl c9)
  refine ok_iconst (v := 0) dX5_read_54 (by decide) ?_
  refine ok_istore (lo' := [_, _, _, _, _, _]) dX5_read_55 (Nat.le_of_ble_eq_true rfl) rfl rfl ?_
  refine ok_iconst (v := 0) dX5_read_57 (by decide) ?_
  refine ok_istore (lo' := [_, _, _, _, _, _]) dX5_read_58 (Nat.le_of_ble_eq_true rfl) rfl rfl ?_
  exact lp_X5_read_60 hv R hs hz ez hL0 K (2 ^ n) 0 (by omega)
theorem sto2 : Sto 60 := Or.inr (Or.inl rfl)
theorem sp_X5_image {g : GG} {h : Hp} {Post : Option Value → Hp → Prop} (hv : Inv h) (K : Post (some (.int 1)) (uI (cpI h 50 60 77) 49 20 1)) : Sp g mX5_image [.ref 49] h Post := by
  show Go g mX5_image 0 [_] [] _ _ _
  refine ok_aload_n dX5_image_0 rfl rfl ?_
  refine ok_iconst (v := 1) dX5_image_1 (by decide) ?_
  refine ok_aload_n dX5_image_2 rfl rfl ?_
  refine ok_getR dX5_image_3 f_X5_41 (by first | exact is_lit hv (by decide) rfl | exact is_sq hv hq | exact is_row hv hq | exact is_pn hv hq (by assumption) | assumption) rfl (by first | exact rf hv rfl | exact rf_row hv hq | assumption) ?_
  refine ok_callV (M' := mX5_moveAll) (b' := (0, 0)) (As := [_, _]) (cx := 5) dX5_image_6 iX5_moveAll w_992 (by decide) rfl (by first | exact is_lit hv (by decide) rfl | exact is_sq hv hq | exact is_row hv hq | exact is_pn hv hq (by assumption) | assumption) rfl (Nat.le_of_ble_eq_true rfl) ⟨Nat.le_of_ble_eq_true rfl, Nat.le_of_ble_eq_true rfl⟩ (Nat.le_of_ble_eq_true rfl) rfl rfl ?_
  refine sp_X5_moveAll_k hv sto2 ?_
  have hv : Inv (cpI h 50 60 77) := hv
  refine ok_aload_n dX5_image_9 rfl rfl ?_
  refine ok_iconst (v := 1) dX5_image_10 (by decide) ?_
  refine ok_putI dX5_image_11 f_X5_277 (by first | exact is_lit hv (by decide) rfl | exact is_sq hv hq | exact is_row hv hq | exact is_pn hv hq (by assumption) | assumption) rfl rfl rfl rfl ?_
  refine ok_iconst (v := 1) dX5_image_14 (by decide) ?_
  refine ok_ireturn dX5_image_15 rfl rfl ?_
  first | exact K | (simp only [↓reduceIte] at K; exact K)
theorem sp_X5_undo_n {g : GG} {h : Hp} {Post : Option Value → Hp → Prop} (hv : Inv h) (hk : hI h 49 20 = 0) (K : Post (some (.int (-1000000004))) (hfm h 3)) : Sp g mX5_undo [.ref 49] h Post := by
  show Go g mX5_undo 0 [_] [] _ _ _
  refine ok_aload_n dX5_undo_0 rfl rfl ?_
  refine ok_getI dX5_undo_1 f_X5_277 (by first | exact is_lit hv (by decide) rfl | exact is_sq hv hq | exact is_row hv hq | exact is_pn hv hq (by assumption) | assumption) rfl ?_
  refine ok_if_ne (tgt := 14) dX5_undo_4 (by decide) (fun c9 => absurd c9 (fun c => c hk)) (fun _ => ?_)
  refine ok_aload_n dX5_undo_7 rfl rfl ?_
  refine ok_ldc dX5_undo_8 w_1000 ?_
  refine ok_callV (M' := mX5_finds) (b' := (0, 0)) (As := [_]) (cx := 5) dX5_undo_10 iX5_finds w_850 (by decide) rfl (by first | exact is_lit hv (by decide) rfl | exact is_sq hv hq | exact is_row hv hq | exact is_pn hv hq (by assumption) | assumption) rfl (Nat.le_of_ble_eq_true rfl) ⟨Nat.le_of_ble_eq_true rfl, Nat.le_of_ble_eq_true rfl⟩ (Nat.le_of_ble_eq_true rfl) rfl rfl ?_
  refine sp_X5_finds hv (k := 3) (by decide) (by decide) ?_
  refine ok_ireturn dX5_undo_13 rfl rfl ?_
  first | exact K | (simp only [↓reduceIte] at K; exact K)
theorem sp_X5_undo {g : GG} {h : Hp} {Post : Option Value → Hp → Prop} (hv : Inv h) (hk : ¬ hI h 49 20 = 0) {n : Nat} {r : Nat → Int32} (R : RM 60 h n r) (K : Post (some (.int (nI n))) (cpI h 60 50 77)) : Sp g mX5_undo [.ref 49] h Post := by
  show Go g mX5_undo 0 [_] [] _ _ _
  refine ok_aload_n dX5_undo_0 rfl rfl ?_
  refine ok_getI dX5_undo_1 f_X5_277 (by first | exact is_lit hv (by decide) rfl | exact is_sq hv hq | exact is_row hv hq | exact is_pn hv hq (by assumption) | assumption) rfl ?_
  refine ok_if_ne (tgt := 14) dX5_undo_4 (by decide) (fun _ => ?_) (fun c9 => absurd c9 hk)
  refine ok_aload_n dX5_undo_14 rfl rfl ?_
  refine ok_iconst (v := 0) dX5_undo_15 (by decide) ?_
  refine ok_aload_n dX5_undo_16 rfl rfl ?_
  refine ok_getR dX5_undo_17 f_X5_41 (by first | exact is_lit hv (by decide) rfl | exact is_sq hv hq | exact is_row hv hq | exact is_pn hv hq (by assumption) | assumption) rfl (by first | exact rf hv rfl | exact rf_row hv hq | assumption) ?_
  refine ok_callV (M' := mX5_moveAll) (b' := (0, 0)) (As := [_, _]) (cx := 5) dX5_undo_20 iX5_moveAll w_992 (by decide) rfl (by first | exact is_lit hv (by decide) rfl | exact is_sq hv hq | exact is_row hv hq | exact is_pn hv hq (by assumption) | assumption) rfl (Nat.le_of_ble_eq_true rfl) ⟨Nat.le_of_ble_eq_true rfl, Nat.le_of_ble_eq_true rfl⟩ (Nat.le_of_ble_eq_true rfl) rfl rfl ?_
  refine sp_X5_moveAll_r hv sto2 ?_
  have hv : Inv (cpI h 60 50 77) := hv
  have R2 : RM 50 (cpI h 60 50 77) n r := R.cp
  refine ok_aload_n dX5_undo_23 rfl rfl ?_
  refine ok_getR dX5_undo_24 f_X5_7 (by first | exact is_lit hv (by decide) rfl | exact is_sq hv hq | exact is_row hv hq | exact is_pn hv hq (by assumption) | assumption) rfl (by first | exact rf hv rfl | exact rf_row hv hq | assumption) ?_
  refine ok_iconst (v := 0) dX5_undo_27 (by decide) ?_
  refine ok_iaload dX5_undo_28 (is_lit hv (by decide) rfl) (by unfold vp_in; decide) ?_
  rw [show hI (cpI h 60 50 77) 50 (Int32.toNatClampNeg 0) = nI n from (R2.2.2.1 0 (by decide)).trans R2.2.1]
  refine ok_ireturn dX5_undo_29 rfl rfl ?_
  first | exact K | (simp only [↓reduceIte] at K; exact K)
theorem sp_X5_tear {g : GG} {h : Hp} {Post : Option Value → Hp → Prop} (hv : Inv h) (hb : B01 (hI h 49 20)) (K : Post (some (.int (hI h 49 20))) (uI h 49 20 0)) : Sp g mX5_tear [.ref 49] h Post := by
  show Go g mX5_tear 0 [_, _] [] _ _ _
  refine ok_aload_n dX5_tear_0 rfl rfl ?_
  refine ok_getI dX5_tear_1 f_X5_277 (by first | exact is_lit hv (by decide) rfl | exact is_sq hv hq | exact is_row hv hq | exact is_pn hv hq (by assumption) | assumption) rfl ?_
  refine ok_if_eq (tgt := 11) dX5_tear_4 (by decide) (fun c_4 => ?_) (fun c_4 => ?_)
  · refine ok_iconst (v := 0) dX5_tear_11 (by decide) ?_
    refine ok_istore_n (lo' := [_, _]) dX5_tear_12 rfl (Nat.le_of_ble_eq_true rfl) rfl rfl ?_
    refine ok_aload_n dX5_tear_13 rfl rfl ?_
    refine ok_iconst (v := 0) dX5_tear_14 (by decide) ?_
    refine ok_putI dX5_tear_15 f_X5_277 (by first | exact is_lit hv (by decide) rfl | exact is_sq hv hq | exact is_row hv hq | exact is_pn hv hq (by assumption) | assumption) rfl rfl rfl rfl ?_
    refine ok_iload_n dX5_tear_18 rfl rfl ?_
    refine ok_ireturn dX5_tear_19 rfl rfl ?_
    first | (rw [c_4] at K; exact K) | (rw [hb.resolve_left c_4] at K; exact K)
  · refine ok_iconst (v := 1) dX5_tear_7 (by decide) ?_
    refine ok_goto (tgt := 12) dX5_tear_8 (by decide) ?_
    refine ok_istore_n (lo' := [_, _]) dX5_tear_12 rfl (Nat.le_of_ble_eq_true rfl) rfl rfl ?_
    refine ok_aload_n dX5_tear_13 rfl rfl ?_
    refine ok_iconst (v := 0) dX5_tear_14 (by decide) ?_
    refine ok_putI dX5_tear_15 f_X5_277 (by first | exact is_lit hv (by decide) rfl | exact is_sq hv hq | exact is_row hv hq | exact is_pn hv hq (by assumption) | assumption) rfl rfl rfl rfl ?_
    refine ok_iload_n dX5_tear_18 rfl rfl ?_
    refine ok_ireturn dX5_tear_19 rfl rfl ?_
    first | (rw [c_4] at K; exact K) | (rw [hb.resolve_left c_4] at K; exact K)
theorem sp_X5_count {g : GG} {h : Hp} {Post : Option Value → Hp → Prop} (hv : Inv h) {n : Nat} {r : Nat → Int32} (R : RM 50 h n r) {w : Nat} (hw : w < 4) (K : Post (some (.int (w_count r n (hI h 49 7) w))) h) : Sp g mX5_count [.ref 49, .int (nI w)] h Post := by
  show Go g mX5_count 0 [_, _] [] _ _ _
  refine ok_iload_n dX5_count_0 rfl rfl ?_
  rcases (show w = 0 ∨ w = 1 ∨ w = 2 ∨ w = 3 by omega) with ew | ew | ew | ew
  · subst ew
    refine ok_tableIn (tgt := 32) (off := 31) dX5_count_1 (by decide) (by decide) (by decide) (by decide) ?_
    refine ok_aload_n dX5_count_32 rfl rfl ?_
    refine ok_getR dX5_count_33 f_X5_7 (by first | exact is_lit hv (by decide) rfl | exact is_sq hv hq | exact is_row hv hq | exact is_pn hv hq (by assumption) | assumption) rfl (by first | exact rf hv rfl | exact rf_row hv hq | assumption) ?_
    refine ok_iconst (v := 0) dX5_count_36 (by decide) ?_
    refine ok_iaload dX5_count_37 (is_lit hv (by decide) rfl) (by unfold vp_in; decide) ?_
    rw [show hI h 50 (Int32.toNatClampNeg 0) = nI n from (R.2.2.1 0 (by decide)).trans R.2.1]
    refine ok_ireturn dX5_count_38 rfl rfl ?_
    exact K
  · subst ew
    refine ok_tableIn (tgt := 39) (off := 38) dX5_count_1 (by decide) (by decide) (by decide) (by decide) ?_
    refine ok_aload_n dX5_count_39 rfl rfl ?_
    refine ok_getI dX5_count_40 f_X5_160 (by first | exact is_lit hv (by decide) rfl | exact is_sq hv hq | exact is_row hv hq | exact is_pn hv hq (by assumption) | assumption) rfl ?_
    refine ok_ireturn dX5_count_43 rfl rfl ?_
    exact K
  · subst ew
    refine ok_tableIn (tgt := 44) (off := 43) dX5_count_1 (by decide) (by decide) (by decide) (by decide) ?_
    refine ok_aload_n dX5_count_44 rfl rfl ?_
    refine ok_iconst (v := 2) dX5_count_45 (by decide) ?_
    refine ok_callV (M' := mX5_sumOf) (b' := (0, 0)) (As := [_]) (cx := 5) dX5_count_46 iX5_sumOf w_956 (by decide) rfl (by first | exact is_lit hv (by decide) rfl | exact is_sq hv hq | exact is_row hv hq | exact is_pn hv hq (by assumption) | assumption) rfl (Nat.le_of_ble_eq_true rfl) ⟨Nat.le_of_ble_eq_true rfl, Nat.le_of_ble_eq_true rfl⟩ (Nat.le_of_ble_eq_true rfl) rfl rfl ?_
    refine sp_X5_sumOf (f := 2) hv R (by decide) ?_
    refine ok_ireturn dX5_count_49 rfl rfl ?_
    exact K
  · subst ew
    refine ok_tableIn (tgt := 50) (off := 49) dX5_count_1 (by decide) (by decide) (by decide) (by decide) ?_
    refine ok_aload_n dX5_count_50 rfl rfl ?_
    refine ok_iconst (v := 4) dX5_count_51 (by decide) ?_
    refine ok_callV (M' := mX5_sumOf) (b' := (0, 0)) (As := [_]) (cx := 5) dX5_count_52 iX5_sumOf w_956 (by decide) rfl (by first | exact is_lit hv (by decide) rfl | exact is_sq hv hq | exact is_row hv hq | exact is_pn hv hq (by assumption) | assumption) rfl (Nat.le_of_ble_eq_true rfl) ⟨Nat.le_of_ble_eq_true rfl, Nat.le_of_ble_eq_true rfl⟩ (Nat.le_of_ble_eq_true rfl) rfl rfl ?_
    refine sp_X5_sumOf (f := 4) hv R (by decide) ?_
    refine ok_ireturn dX5_count_55 rfl rfl ?_
    exact K
theorem sp_X5_count_w {g : GG} {h : Hp} {Post : Option Value → Hp → Prop} (hv : Inv h) {w : Int32} (hw : w.toInt < 0 ∨ 3 < w.toInt) (K : Post (some (.int (-1000000001))) (hfm h 0)) : Sp g mX5_count [.ref 49, .int w] h Post := by
  show Go g mX5_count 0 [_, _] [] _ _ _
  refine ok_iload_n dX5_count_0 rfl rfl ?_
  skip
  · refine ok_tableOut (tgt := 56) dX5_count_1 hw (by decide) ?_
    refine ok_aload_n dX5_count_56 rfl rfl ?_
    refine ok_ldc dX5_count_57 w_849 ?_
    refine ok_callV (M' := mX5_finds) (b' := (0, 0)) (As := [_]) (cx := 5) dX5_count_59 iX5_finds w_850 (by decide) rfl (by first | exact is_lit hv (by decide) rfl | exact is_sq hv hq | exact is_row hv hq | exact is_pn hv hq (by assumption) | assumption) rfl (Nat.le_of_ble_eq_true rfl) ⟨Nat.le_of_ble_eq_true rfl, Nat.le_of_ble_eq_true rfl⟩ (Nat.le_of_ble_eq_true rfl) rfl rfl ?_
    refine sp_X5_finds hv (k := 0) (by decide) (by decide) ?_
    refine ok_ireturn dX5_count_62 rfl rfl ?_
    first | exact K | (simp only [↓reduceIte] at K; exact K)
theorem sp_X5_status_b {g : GG} {h : Hp} {Post : Option Value → Hp → Prop} (hv : Inv h) {v : Int32} (hb : v < -1 ∨ 6 < v) (K : Post (some (.int (-1000000001))) (hfm h 0)) : Sp g mX5_status [.ref 49, .int v] h Post := by
  show Go g mX5_status 0 [_, _, _, _] [] _ _ _
  refine ok_iload_n dX5_status_0 rfl rfl ?_
  refine ok_iconst (v := -1) dX5_status_1 (by decide) ?_
  refine ok_bipush (v := 6) dX5_status_2 (by decide) ?_
  refine ok_callS (M' := mX5_in) (b' := (0, 0)) (As := [_, _, _]) dX5_status_4 iX5_in w_846 rfl (Nat.le_of_ble_eq_true rfl) ⟨Nat.le_of_ble_eq_true rfl, Nat.le_of_ble_eq_true rfl⟩ (Nat.le_of_ble_eq_true rfl) rfl rfl ?_
  refine sp_X5_in _ _ _ ?_
  rw [wi_bad hb]
  refine ok_if_ne (tgt := 17) dX5_status_7 (by decide) (fun c9 => absurd c9 (fun c => c rfl)) (fun _ => ?_)
  refine ok_aload_n dX5_status_10 rfl rfl ?_
  refine ok_ldc dX5_status_11 w_849 ?_
  refine ok_callV (M' := mX5_finds) (b' := (0, 0)) (As := [_]) (cx := 5) dX5_status_13 iX5_finds w_850 (by decide) rfl (by first | exact is_lit hv (by decide) rfl | exact is_sq hv hq | exact is_row hv hq | exact is_pn hv hq (by assumption) | assumption) rfl (Nat.le_of_ble_eq_true rfl) ⟨Nat.le_of_ble_eq_true rfl, Nat.le_of_ble_eq_true rfl⟩ (Nat.le_of_ble_eq_true rfl) rfl rfl ?_
  refine sp_X5_finds hv (k := 0) (by decide) (by decide) ?_
  refine ok_ireturn dX5_status_16 rfl rfl ?_
  first | exact K | (simp only [↓reduceIte] at K; exact K)
theorem lp_X5_status_21 {g : GG} {h : Hp} {Post : Option Value → Hp → Prop} (hv : Inv h) {x1 : Int32} (K : Go g mX5_status 42 [some (.ref 49), some (.int x1), some (.int (w_sum (fun k => hI h 51 k) 7)), some (.int (nI 7))] [] h (0, 0) Post) : ∀ (k i : Nat), i + k = 7 → Go g mX5_status 21 [some (.ref 49), some (.int x1), some (.int (w_sum (fun k => hI h 51 k) i)), some (.int (nI i))] [] h (0, 0) Post := by
  intro k
  induction k with
  | zero =>
    intro i  hik 
    obtain rfl : i = 7 := by omega
    refine ok_iload_n dX5_status_21 rfl rfl ?_
    refine ok_bipush (v := 7) dX5_status_22 (by decide) ?_
    refine ok_icmp_ge (tgt := 42) dX5_status_24 (by decide) (fun _ => ?_) (fun c9 => absurd (by decide) c9)
    exact K
  | succ k ih =>
    intro i  hik 
    have hi : i < 7 := by omega
    refine ok_iload_n dX5_status_21 rfl rfl ?_
    refine ok_bipush (v := 7) dX5_status_22 (by decide) ?_
    refine ok_icmp_ge (tgt := 42) dX5_status_24 (by decide) (fun c9 => absurd c9 (nI_ge hi (by decide))) (fun _ => ?_)
    refine ok_iload_n dX5_status_27 rfl rfl ?_
    refine ok_aload_n dX5_status_28 rfl rfl ?_
    refine ok_getR dX5_status_29 f_X5_13 (by first | exact is_lit hv (by decide) rfl | exact is_sq hv hq | exact is_row hv hq | exact is_pn hv hq (by assumption) | assumption) rfl (by first | exact rf hv rfl | exact rf_row hv hq | assumption) ?_
    refine ok_iload_n dX5_status_32 rfl rfl ?_
    refine ok_iaload dX5_status_33 (is_lit hv (by decide) rfl) (vp_in_nI hi (by decide)) ?_
    rw [nI_clamp (by omega)]
    refine ok_iadd dX5_status_34 ?_
    refine ok_istore_n (lo' := [_, _, _, _]) dX5_status_35 rfl (Nat.le_of_ble_eq_true rfl) rfl rfl ?_
    refine ok_iinc (v := _ + 1) (lo' := [_, _, _, _]) dX5_status_36 rfl rfl (Nat.le_of_ble_eq_true rfl) rfl rfl ?_
    refine ok_goto (tgt := 21) dX5_status_39 (by decide) ?_
    rw [nI_1]
    exact ih (i + 1) (by omega)
theorem sp_X5_status_s {g : GG} {h : Hp} {Post : Option Value → Hp → Prop} (hv : Inv h) (K : Post (some (.int (w_sum (fun k => hI h 51 k) 7))) h) : Sp g mX5_status [.ref 49, .int (-1)] h Post := by
  show Go g mX5_status 0 [_, _, _, _] [] _ _ _
  refine ok_iload_n dX5_status_0 rfl rfl ?_
  refine ok_iconst (v := -1) dX5_status_1 (by decide) ?_
  refine ok_bipush (v := 6) dX5_status_2 (by decide) ?_
  refine ok_callS (M' := mX5_in) (b' := (0, 0)) (As := [_, _, _]) dX5_status_4 iX5_in w_846 rfl (Nat.le_of_ble_eq_true rfl) ⟨Nat.le_of_ble_eq_true rfl, Nat.le_of_ble_eq_true rfl⟩ (Nat.le_of_ble_eq_true rfl) rfl rfl ?_
  refine sp_X5_in _ _ _ ?_
  rw [wi_ok (v := -1) (l := -1) (u := 6) (by decide) (by decide)]
  refine ok_if_ne (tgt := 17) dX5_status_7 (by decide) (fun _ => ?_) (fun c9 => absurd c9 (by decide))
  refine ok_iconst (v := 0) dX5_status_17 (by decide) ?_
  refine ok_istore_n (lo' := [_, _, _, _]) dX5_status_18 rfl (Nat.le_of_ble_eq_true rfl) rfl rfl ?_
  refine ok_iconst (v := 0) dX5_status_19 (by decide) ?_
  refine ok_istore_n (lo' := [_, _, _, _]) dX5_status_20 rfl (Nat.le_of_ble_eq_true rfl) rfl rfl ?_
  refine lp_X5_status_21 hv ?_ 7 0 (by omega)
  refine ok_iload_n dX5_status_42 rfl rfl ?_
  refine ok_if_ge (tgt := 50) dX5_status_43 (by decide) (fun c9 => absurd c9 (by decide)) (fun _ => ?_)
  refine ok_iload_n dX5_status_46 rfl rfl ?_
  refine ok_goto (tgt := 64) dX5_status_47 (by decide) ?_
  refine ok_ireturn dX5_status_64 rfl rfl ?_
  first | exact K | (simp only [↓reduceIte] at K; exact K)
theorem sp_X5_status {g : GG} {h : Hp} {Post : Option Value → Hp → Prop} (hv : Inv h) {k : Nat} (hk : k < 7) (K : Post (some (.int (hI h 51 k))) h) : Sp g mX5_status [.ref 49, .int (nI k)] h Post := by
  show Go g mX5_status 0 [_, _, _, _] [] _ _ _
  refine ok_iload_n dX5_status_0 rfl rfl ?_
  refine ok_iconst (v := -1) dX5_status_1 (by decide) ?_
  refine ok_bipush (v := 6) dX5_status_2 (by decide) ?_
  refine ok_callS (M' := mX5_in) (b' := (0, 0)) (As := [_, _, _]) dX5_status_4 iX5_in w_846 rfl (Nat.le_of_ble_eq_true rfl) ⟨Nat.le_of_ble_eq_true rfl, Nat.le_of_ble_eq_true rfl⟩ (Nat.le_of_ble_eq_true rfl) rfl rfl ?_
  refine sp_X5_in _ _ _ ?_
  rw [wi_ok (v := nI k) (l := -1) (u := 6) (fun c => by have := nI_pos (n := k) (by omega); rw [i_lt] at c this; have e1 : (-1 : Int32).toInt = -1 := rfl; have e0 : (0 : Int32).toInt = 0 := rfl; omega) (nI_nlt (a := 6) (b := k) (by omega) (by decide))]
  refine ok_if_ne (tgt := 17) dX5_status_7 (by decide) (fun _ => ?_) (fun c9 => absurd c9 (by decide))
  refine ok_iconst (v := 0) dX5_status_17 (by decide) ?_
  refine ok_istore_n (lo' := [_, _, _, _]) dX5_status_18 rfl (Nat.le_of_ble_eq_true rfl) rfl rfl ?_
  refine ok_iconst (v := 0) dX5_status_19 (by decide) ?_
  refine ok_istore_n (lo' := [_, _, _, _]) dX5_status_20 rfl (Nat.le_of_ble_eq_true rfl) rfl rfl ?_
  refine lp_X5_status_21 hv ?_ 7 0 (by omega)
  refine ok_iload_n dX5_status_42 rfl rfl ?_
  refine ok_if_ge (tgt := 50) dX5_status_43 (by decide) (fun _ => ?_) (fun c9 => absurd (nI_pos' (by omega)) c9)
  refine ok_aload_n dX5_status_50 rfl rfl ?_
  refine ok_getR dX5_status_51 f_X5_13 (by first | exact is_lit hv (by decide) rfl | exact is_sq hv hq | exact is_row hv hq | exact is_pn hv hq (by assumption) | assumption) rfl (by first | exact rf hv rfl | exact rf_row hv hq | assumption) ?_
  refine ok_iload_n dX5_status_54 rfl rfl ?_
  refine ok_if_ge (tgt := 62) dX5_status_55 (by decide) (fun _ => ?_) (fun c9 => absurd (nI_pos' (by omega)) c9)
  refine ok_iload_n dX5_status_62 rfl rfl ?_
  refine ok_iaload dX5_status_63 (is_lit hv (by decide) rfl) (vp_in_nI hk (by decide)) ?_
  rw [nI_clamp (by omega)]
  refine ok_ireturn dX5_status_64 rfl rfl ?_
  first | exact K | (simp only [↓reduceIte] at K; exact K)
