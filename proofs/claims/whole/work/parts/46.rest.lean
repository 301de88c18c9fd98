/-! ===== the reference: rests ===== -/
def clb (l : Nat) : Nat := Nat.land l (l - 1)
theorem cl_all : ∀ l, l < 1024 → l ≠ 0 → nI l &&& (nI l - 1) = nI (clb l) ∧ popc (clb l) + 1 = popc l ∧ clb l < 1024 := by decide +kernel
theorem po_0 : ∀ l, l < 1024 → popc l = 0 → l = 0 := by decide +kernel
theorem ne_nI {l : Nat} (h : l ≠ 0) (h2 : l < 100000) : ¬ nI l = 0 := fun e => h ((nI_inj2 (b := 0) h2 (by decide)).mp e)
theorem lp_X5_ones_4 {g : GG} {h : Hp} {Post : Option Value → Hp → Prop} (s : Int32) (m : Nat) (K : Post (some (.int (nI m))) h) : ∀ (k l c : Nat), l < 1024 → popc l = k → c + k = m → Go g mX5_ones 4 [some (.int s), some (.int (nI c)), some (.int (nI l))] [] h (0, 0) Post := by
  intro k
  induction k with
  | zero =>
    intro l c hl hp hc
    obtain rfl := po_0 l hl hp
    obtain rfl : c = m := by omega
    refine ok_iload_n dX5_ones_4 rfl rfl ?_
    refine ok_if_eq (tgt := 20) dX5_ones_5 (by decide) (fun _ => ?_) (fun c9 => absurd rfl c9)
    refine ok_iload_n dX5_ones_20 rfl rfl ?_
    refine ok_ireturn dX5_ones_21 rfl rfl ?_
    first | exact K | (simp only [↓reduceIte] at K; exact K)
  | succ k ih =>
    intro l c hl hp hc
    have h0 : l ≠ 0 := fun e => by rw [e, show popc 0 = 0 from rfl] at hp; omega
    obtain ⟨e1, e2, e3⟩ := cl_all l hl h0
    refine ok_iload_n dX5_ones_4 rfl rfl ?_
    refine ok_if_eq (tgt := 20) dX5_ones_5 (by decide) (fun c9 => absurd c9 (ne_nI h0 (by omega))) (fun _ => ?_)
    refine ok_iinc (v := _ + 1) (lo' := [_, _, _]) dX5_ones_8 rfl rfl (Nat.le_of_ble_eq_true rfl) rfl rfl ?_
    refine ok_iload_n dX5_ones_11 rfl rfl ?_
    refine ok_iload_n dX5_ones_12 rfl rfl ?_
    refine ok_iconst (v := 1) dX5_ones_13 (by decide) ?_
    refine ok_isub dX5_ones_14 ?_
    refine ok_iand dX5_ones_15 ?_
    rw [e1]
    refine ok_istore_n (lo' := [_, _, _]) dX5_ones_16 rfl (Nat.le_of_ble_eq_true rfl) rfl rfl ?_
    refine ok_goto (tgt := 4) dX5_ones_17 (by decide) ?_
    rw [nI_1]
    exact ih (clb l) (c + 1) e3 (by omega) (by omega)
theorem sp_X5_ones {g : GG} {h : Hp} {Post : Option Value → Hp → Prop} {b : Nat} (hb : b < 1024) (K : Post (some (.int (nI (popc b)))) h) : Sp g mX5_ones [.int (nI b)] h Post := by
  show Go g mX5_ones 0 [_, _, _] [] _ _ _
  refine ok_iconst (v := 0) dX5_ones_0 (by decide) ?_
  refine ok_istore_n (lo' := [_, _, _]) dX5_ones_1 rfl (Nat.le_of_ble_eq_true rfl) rfl rfl ?_
  refine ok_iload_n dX5_ones_2 rfl rfl ?_
  refine ok_istore_n (lo' := [_, _, _]) dX5_ones_3 rfl (Nat.le_of_ble_eq_true rfl) rfl rfl ?_
  exact lp_X5_ones_4 _ _ K (popc b) b 0 hb rfl (by omega)
theorem sp_X5_gainIn {g : GG} {h : Hp} {Post : Option Value → Hp → Prop} (hv : Inv h) {n : Nat} {r : Nat → Int32} (R : RM 50 h n r) {b p : Nat} (hb : b < 1024) (hp : p < n) (K : Post (some (.int (gI (r 1 + nI (popc b)) (ro r p 2) (nI (bt b p)) p))) h) : Sp g mX5_gainIn [.ref 49, .int (nI b), .int (nI p)] h Post := by
  show Go g mX5_gainIn 0 [_, _, _, _] [] _ _ _
  have hn := R.1
  unfold gI at K
  refine ok_aload_n dX5_gainIn_0 rfl rfl ?_
  refine ok_getR dX5_gainIn_1 f_X5_7 (by first | exact is_lit hv (by decide) rfl | exact is_sq hv hq | exact is_row hv hq | exact is_pn hv hq (by assumption) | assumption) rfl (by first | exact rf hv rfl | exact rf_row hv hq | assumption) ?_
  refine ok_iconst (v := 1) dX5_gainIn_4 (by decide) ?_
  refine ok_iaload dX5_gainIn_5 (is_lit hv (by decide) rfl) (by unfold vp_in; decide) ?_
  rw [show hI h 50 (Int32.toNatClampNeg 1) = r 1 from R.2.2.1 1 (by decide)]
  refine ok_iload_n dX5_gainIn_6 rfl rfl ?_
  refine ok_callS (M' := mX5_ones) (b' := (0, 0)) (As := [_]) dX5_gainIn_7 iX5_ones w_1071 rfl (Nat.le_of_ble_eq_true rfl) ⟨Nat.le_of_ble_eq_true rfl, Nat.le_of_ble_eq_true rfl⟩ (Nat.le_of_ble_eq_true rfl) rfl rfl ?_
  refine sp_X5_ones hb ?_
  refine ok_iadd dX5_gainIn_10 ?_
  refine ok_istore_n (lo' := [_, _, _, _]) dX5_gainIn_11 rfl (Nat.le_of_ble_eq_true rfl) rfl rfl ?_
  refine ok_iload_n dX5_gainIn_12 rfl rfl ?_
  refine ok_iload_n dX5_gainIn_13 rfl rfl ?_
  refine ok_icmp_ge (tgt := 26) dX5_gainIn_14 (by decide) (fun c_14 => ?_) (fun c_14 => ?_)
  · refine ok_iconst (v := 0) dX5_gainIn_26 (by decide) ?_
    refine ok_iload_n dX5_gainIn_27 rfl rfl ?_
    refine ok_iload_n dX5_gainIn_28 rfl rfl ?_
    refine ok_ishr dX5_gainIn_29 ?_
    refine ok_iconst (v := 1) dX5_gainIn_30 (by decide) ?_
    refine ok_iand dX5_gainIn_31 ?_
    rw [bt_of hb (by omega)]
    refine ok_isub dX5_gainIn_32 ?_
    refine ok_ireturn dX5_gainIn_33 rfl rfl ?_
    first | (rw [if_pos c_14] at K; exact K) | (rw [if_neg c_14] at K; exact K)
  · refine ok_aload_n dX5_gainIn_17 rfl rfl ?_
    refine ok_iload_n dX5_gainIn_18 rfl rfl ?_
    refine ok_iconst (v := 2) dX5_gainIn_19 (by decide) ?_
    refine ok_callV (M' := mX5_its) (b' := (0, 0)) (As := [_, _]) (cx := 5) dX5_gainIn_20 iX5_its w_871 (by decide) rfl (by first | exact is_lit hv (by decide) rfl | exact is_sq hv hq | exact is_row hv hq | exact is_pn hv hq (by assumption) | assumption) rfl (Nat.le_of_ble_eq_true rfl) ⟨Nat.le_of_ble_eq_true rfl, Nat.le_of_ble_eq_true rfl⟩ (Nat.le_of_ble_eq_true rfl) rfl rfl ?_
    refine sp_X5_its (f := 2) hv R hp (by decide) ?_
    refine ok_goto (tgt := 27) dX5_gainIn_23 (by decide) ?_
    refine ok_iload_n dX5_gainIn_27 rfl rfl ?_
    refine ok_iload_n dX5_gainIn_28 rfl rfl ?_
    refine ok_ishr dX5_gainIn_29 ?_
    refine ok_iconst (v := 1) dX5_gainIn_30 (by decide) ?_
    refine ok_iand dX5_gainIn_31 ?_
    rw [bt_of hb (by omega)]
    refine ok_isub dX5_gainIn_32 ?_
    refine ok_ireturn dX5_gainIn_33 rfl rfl ?_
    first | (rw [if_pos c_14] at K; exact K) | (rw [if_neg c_14] at K; exact K)
def flp (b p : Nat) : Nat := if bt b p = 0 then b + 2 ^ p else b - 2 ^ p
theorem fl_all : ∀ p, p < 10 → ∀ b, b < 1024 → nI b ^^^ ((1 : Int32) <<< (nI p &&& 31)) = nI (flp b p) ∧ flp b p < 1024 ∧ popc (flp b p) + bt b p = popc b + (1 - bt b p) ∧ bt (flp b p) p = 1 - bt b p := by decide +kernel
theorem fl_m {b p : Nat} {x : Int32} (hp : p < 10) (hb : b < 1024) : x + nI (popc (flp b p)) = x + nI (popc b) - nI (bt b p) + (1 - nI (bt b p)) := by
  obtain ⟨-, -, e, -⟩ := fl_all p hp b hb
  rcases bt_2 b p with h | h
  · rw [h] at e ⊢
    rw [show popc (flp b p) = popc b + 1 by omega, ← nI_1, show nI 0 = 0 from rfl, Int32.sub_zero, Int32.sub_zero, Int32.add_assoc]
  · rw [h] at e ⊢
    rw [show popc b = popc (flp b p) + 1 by omega, ← nI_1, show nI 1 = 1 from rfl, Int32.sub_self, Int32.add_zero, ← Int32.add_assoc, Int32.add_sub_cancel]
theorem fl_b {b p : Nat} (hp : p < 10) (hb : b < 1024) : nI (bt (flp b p) p) = 1 - nI (bt b p) := by
  obtain ⟨-, -, -, e⟩ := fl_all p hp b hb
  rw [e]
  rcases bt_2 b p with h | h <;> rw [h] <;> rfl
/-- one has no better: as the reference sees it -/
theorem cr_y {r : Nat → Int32} {b p u : Nat} (hu : u ≤ 999) (eu : ro r p 1 = nI u) (h0 : ¬ nI u ≤ 0) : w_cr r b p ↔ gI (r 1 + nI (popc b) - nI (bt b p) + (1 - nI (bt b p))) (ro r p 2) (1 - nI (bt b p)) p ≤ gI (r 1 + nI (popc b)) (ro r p 2) (nI (bt b p)) p := by
  have hu1 : 1 ≤ u := by
    rcases Nat.eq_zero_or_pos u with e | e
    · subst e; exact absurd (by decide) h0
    · exact e
  have a : nI (bt b p) ≤ ro r p 1 := by rw [eu]; rcases bt_2 b p with h | h <;> (rw [h]; exact nI_le (by omega) (by omega))
  have c : ¬ ro r p 1 < 1 - nI (bt b p) := by
    rw [eu]
    rcases bt_2 b p with h | h <;> rw [h]
    · exact nI_nlt (a := u) (b := 1) hu1 (by omega)
    · exact nI_nlt (a := u) (b := 0) (by omega) (by omega)
  unfold w_cr
  constructor
  · intro z
    exact z.2.resolve_left c
  · intro z
    exact ⟨a, Or.inr z⟩
theorem cr_n {r : Nat → Int32} {b p u : Nat} (hu : u ≤ 999) (eu : ro r p 1 = nI u) (h0 : nI u ≤ 0) : w_cr r b p ↔ nI (bt b p) = 0 := by
  have hu1 : u = 0 := by
    rcases Nat.eq_zero_or_pos u with e | e
    · exact e
    · exact absurd h0 (nI_ge (a := 0) (b := u) e (by omega))
  subst hu1
  unfold w_cr
  rw [eu]
  rcases bt_2 b p with h | h <;> rw [h]
  · exact ⟨fun _ => rfl, fun _ => ⟨by decide, Or.inl (by decide)⟩⟩
  · exact ⟨fun z => absurd z.1 (by decide), fun z => absurd z (by decide)⟩
theorem rst_z (r : Nat → Int32) (b : Nat) : w_rst r 0 b = 1 := rst_1 (fun p hp => absurd hp (by omega))
theorem rst_s0 {r : Nat → Int32} {n b : Nat} (h : w_rst r n b = 0) : w_rst r (n + 1) b = 0 := by
  by_cases c : ∀ p, p < n + 1 → w_cr r b p
  · have := rst_1 (n := n) (fun p hp => c p (by omega))
    rw [this] at h
    exact absurd h (by decide)
  · unfold w_rst
    exact if_neg c
theorem rst_s1 {r : Nat → Int32} {n b : Nat} (h : ¬ w_rst r n b = 0) (c : w_cr r b n) : w_rst r (n + 1) b = 1 := by
  have h2 : ∀ p, p < n → w_cr r b p := by
    intro p hp
    by_cases e : w_cr r b p
    · exact e
    · exact absurd (rst_0 hp e) h
  refine rst_1 (fun p hp => ?_)
  rcases Nat.lt_or_ge p n with q | q
  · exact h2 p q
  · rw [show p = n by omega]; exact c
theorem rst_s2 {r : Nat → Int32} {n b : Nat} (c : ¬ w_cr r b n) : w_rst r (n + 1) b = 0 := rst_0 (Nat.lt_succ_self n) c
theorem rst_b (r : Nat → Int32) (n b : Nat) : B01 (w_rst r n b) := by
  by_cases c : ∀ p, p < n → w_cr r b p
  · exact Or.inr (rst_1 c)
  · left
    unfold w_rst
    exact if_neg c
theorem lp_X5_isRest_4 {g : GG} {h : Hp} {Post : Option Value → Hp → Prop} (hv : Inv h) {n : Nat} {r : Nat → Int32} (R : RM 50 h n r) (G : RG r n) {b : Nat} (hb : b < 1024) (K : Post (some (.int (w_rst r n b))) h) : ∀ (k i : Nat) (x4 : Option Value), i + k = n → Go g mX5_isRest 4 [some (.ref 49), some (.int (nI b)), some (.int (w_rst r i b)), some (.int (nI i)), x4] [] h (0, 0) Post := by
  have hn := R.1
  intro k
  induction k with
  | zero =>
    intro i x4 hik
    obtain rfl : i = n := by omega
    refine ok_iload_n dX5_isRest_4 rfl rfl ?_
    refine ok_aload_n dX5_isRest_5 rfl rfl ?_
    refine ok_getR dX5_isRest_6 f_X5_7 (by first | exact is_lit hv (by decide) rfl | exact is_sq hv hq | exact is_row hv hq | exact is_pn hv hq (by assumption) | assumption) rfl (by first | exact rf hv rfl | exact rf_row hv hq | assumption) ?_
    refine ok_iconst (v := 0) dX5_isRest_9 (by decide) ?_
    refine ok_iaload dX5_isRest_10 (is_lit hv (by decide) rfl) (by unfold vp_in; decide) ?_
    rw [show hI h 50 (Int32.toNatClampNeg 0) = nI i from (R.2.2.1 0 (by decide)).trans R.2.1]
    refine ok_icmp_ge (tgt := 81) dX5_isRest_11 (by decide) (fun _ => ?_) (fun c9 => absurd (nI_le (Nat.le_refl _) (by omega)) c9)
    refine ok_iload_n dX5_isRest_81 rfl rfl ?_
    refine ok_ireturn dX5_isRest_82 rfl (nar_b (rst_b _ _ _)) ?_
    exact K
  | succ k ih =>
    intro i x4 hik
    have hi : i < n := by omega
    have hi10 : i < 10 := by omega
    obtain ⟨u, hu, eu⟩ := (G.2.2.2.2 i hi).2.1
    obtain ⟨e1, e2, -, -⟩ := fl_all i hi10 b hb
    by_cases c0 : nI u ≤ 0
    · refine ok_iload_n dX5_isRest_4 rfl rfl ?_
      refine ok_aload_n dX5_isRest_5 rfl rfl ?_
      refine ok_getR dX5_isRest_6 f_X5_7 (by first | exact is_lit hv (by decide) rfl | exact is_sq hv hq | exact is_row hv hq | exact is_pn hv hq (by assumption) | assumption) rfl (by first | exact rf hv rfl | exact rf_row hv hq | assumption) ?_
      refine ok_iconst (v := 0) dX5_isRest_9 (by decide) ?_
      refine ok_iaload dX5_isRest_10 (is_lit hv (by decide) rfl) (by unfold vp_in; decide) ?_
      rw [show hI h 50 (Int32.toNatClampNeg 0) = nI n from (R.2.2.1 0 (by decide)).trans R.2.1]
      refine ok_icmp_ge (tgt := 81) dX5_isRest_11 (by decide) (fun c9 => absurd c9 (nI_ge hi (by omega))) (fun _ => ?_)
      refine ok_aload_n dX5_isRest_14 rfl rfl ?_
      refine ok_iload_n dX5_isRest_15 rfl rfl ?_
      refine ok_iconst (v := 1) dX5_isRest_16 (by decide) ?_
      refine ok_callV (M' := mX5_its) (b' := (0, 0)) (As := [_, _]) (cx := 5) dX5_isRest_17 iX5_its w_871 (by decide) rfl (by first | exact is_lit hv (by decide) rfl | exact is_sq hv hq | exact is_row hv hq | exact is_pn hv hq (by assumption) | assumption) rfl (Nat.le_of_ble_eq_true rfl) ⟨Nat.le_of_ble_eq_true rfl, Nat.le_of_ble_eq_true rfl⟩ (Nat.le_of_ble_eq_true rfl) rfl rfl ?_
      refine sp_X5_its (f := 1) hv R hi (by decide) ?_
      rw [eu]
      refine ok_if_le (tgt := 27) dX5_isRest_20 (by decide) (fun _ => ?_) (fun c9 => absurd c0 c9)
      refine ok_iconst (v := 0) dX5_isRest_27 (by decide) ?_
      refine ok_istore (lo' := [_, _, _, _, _]) dX5_isRest_28 (Nat.le_of_ble_eq_true rfl) rfl rfl ?_
      refine ok_iload_n dX5_isRest_30 rfl rfl ?_
      refine ok_if_eq (tgt := 73) dX5_isRest_31 (by decide) (fun c_31 => ?_) (fun c_31 => ?_)
      · refine ok_iconst (v := 0) dX5_isRest_73 (by decide) ?_
        refine ok_istore_n (lo' := [_, _, _, _, _]) dX5_isRest_74 rfl (Nat.le_of_ble_eq_true rfl) rfl rfl ?_
        refine ok_iinc (v := _ + 1) (lo' := [_, _, _, _, _]) dX5_isRest_75 rfl rfl (Nat.le_of_ble_eq_true rfl) rfl rfl ?_
        refine ok_goto (tgt := 4) dX5_isRest_78 (by decide) ?_
        rw [nI_1]
        have e := ih (i + 1) (some (.int 0)) (by omega)
        first
          | (rw [rst_s0 c_31] at e; exact e)
          | (rw [rst_s1 c_31 ((cr_n hu eu c0).mpr c_66)] at e; exact e)
          | (rw [rst_s2 (fun z => c_66 ((cr_n hu eu c0).mp z))] at e; exact e)
      · refine ok_iload dX5_isRest_34 rfl ?_
        refine ok_if_eq (tgt := 61) dX5_isRest_36 (by decide) (fun _ => ?_) (fun c9 => absurd rfl c9)
        refine ok_iload_n dX5_isRest_61 rfl rfl ?_
        refine ok_iload_n dX5_isRest_62 rfl rfl ?_
        refine ok_ishr dX5_isRest_63 ?_
        refine ok_iconst (v := 1) dX5_isRest_64 (by decide) ?_
        refine ok_iand dX5_isRest_65 ?_
        rw [bt_of hb hi10]
        refine ok_if_ne (tgt := 73) dX5_isRest_66 (by decide) (fun c_66 => ?_) (fun c_66 => ?_)
        · refine ok_iconst (v := 0) dX5_isRest_73 (by decide) ?_
          refine ok_istore_n (lo' := [_, _, _, _, _]) dX5_isRest_74 rfl (Nat.le_of_ble_eq_true rfl) rfl rfl ?_
          refine ok_iinc (v := _ + 1) (lo' := [_, _, _, _, _]) dX5_isRest_75 rfl rfl (Nat.le_of_ble_eq_true rfl) rfl rfl ?_
          refine ok_goto (tgt := 4) dX5_isRest_78 (by decide) ?_
          rw [nI_1]
          have e := ih (i + 1) (some (.int 0)) (by omega)
          first
            | (rw [rst_s0 c_31] at e; exact e)
            | (rw [rst_s1 c_31 ((cr_n hu eu c0).mpr c_66)] at e; exact e)
            | (rw [rst_s2 (fun z => c_66 ((cr_n hu eu c0).mp z))] at e; exact e)
        · refine ok_iconst (v := 1) dX5_isRest_69 (by decide) ?_
          refine ok_goto (tgt := 74) dX5_isRest_70 (by decide) ?_
          refine ok_istore_n (lo' := [_, _, _, _, _]) dX5_isRest_74 rfl (Nat.le_of_ble_eq_true rfl) rfl rfl ?_
          refine ok_iinc (v := _ + 1) (lo' := [_, _, _, _, _]) dX5_isRest_75 rfl rfl (Nat.le_of_ble_eq_true rfl) rfl rfl ?_
          refine ok_goto (tgt := 4) dX5_isRest_78 (by decide) ?_
          rw [nI_1]
          have e := ih (i + 1) (some (.int 0)) (by omega)
          first
            | (rw [rst_s0 c_31] at e; exact e)
            | (rw [rst_s1 c_31 ((cr_n hu eu c0).mpr c_66)] at e; exact e)
            | (rw [rst_s2 (fun z => c_66 ((cr_n hu eu c0).mp z))] at e; exact e)
    · refine ok_iload_n dX5_isRest_4 rfl rfl ?_
      refine ok_aload_n dX5_isRest_5 rfl rfl ?_
      refine ok_getR dX5_isRest_6 f_X5_7 (by first | exact is_lit hv (by decide) rfl | exact is_sq hv hq | exact is_row hv hq | exact is_pn hv hq (by assumption) | assumption) rfl (by first | exact rf hv rfl | exact rf_row hv hq | assumption) ?_
      refine ok_iconst (v := 0) dX5_isRest_9 (by decide) ?_
      refine ok_iaload dX5_isRest_10 (is_lit hv (by decide) rfl) (by unfold vp_in; decide) ?_
      rw [show hI h 50 (Int32.toNatClampNeg 0) = nI n from (R.2.2.1 0 (by decide)).trans R.2.1]
      refine ok_icmp_ge (tgt := 81) dX5_isRest_11 (by decide) (fun c9 => absurd c9 (nI_ge hi (by omega))) (fun _ => ?_)
      refine ok_aload_n dX5_isRest_14 rfl rfl ?_
      refine ok_iload_n dX5_isRest_15 rfl rfl ?_
      refine ok_iconst (v := 1) dX5_isRest_16 (by decide) ?_
      refine ok_callV (M' := mX5_its) (b' := (0, 0)) (As := [_, _]) (cx := 5) dX5_isRest_17 iX5_its w_871 (by decide) rfl (by first | exact is_lit hv (by decide) rfl | exact is_sq hv hq | exact is_row hv hq | exact is_pn hv hq (by assumption) | assumption) rfl (Nat.le_of_ble_eq_true rfl) ⟨Nat.le_of_ble_eq_true rfl, Nat.le_of_ble_eq_true rfl⟩ (Nat.le_of_ble_eq_true rfl) rfl rfl ?_
      refine sp_X5_its (f := 1) hv R hi (by decide) ?_
      rw [eu]
      refine ok_if_le (tgt := 27) dX5_isRest_20 (by decide) (fun c9 => absurd c9 c0) (fun _ => ?_)
      refine ok_iconst (v := 1) dX5_isRest_23 (by decide) ?_
      refine ok_goto (tgt := 28) dX5_isRest_24 (by decide) ?_
      refine ok_istore (lo' := [_, _, _, _, _]) dX5_isRest_28 (Nat.le_of_ble_eq_true rfl) rfl rfl ?_
      refine ok_iload_n dX5_isRest_30 rfl rfl ?_
      refine ok_if_eq (tgt := 73) dX5_isRest_31 (by decide) (fun c_31 => ?_) (fun c_31 => ?_)
      · refine ok_iconst (v := 0) dX5_isRest_73 (by decide) ?_
        refine ok_istore_n (lo' := [_, _, _, _, _]) dX5_isRest_74 rfl (Nat.le_of_ble_eq_true rfl) rfl rfl ?_
        refine ok_iinc (v := _ + 1) (lo' := [_, _, _, _, _]) dX5_isRest_75 rfl rfl (Nat.le_of_ble_eq_true rfl) rfl rfl ?_
        refine ok_goto (tgt := 4) dX5_isRest_78 (by decide) ?_
        rw [nI_1]
        have e := ih (i + 1) (some (.int 1)) (by omega)
        first
          | (rw [rst_s0 c_31] at e; exact e)
          | (rw [rst_s1 c_31 ((cr_y hu eu c0).mpr (i_nlt.mp c_55))] at e; exact e)
          | (rw [rst_s2 (fun z => i_nlt.mpr ((cr_y hu eu c0).mp z) c_55)] at e; exact e)
      · refine ok_iload dX5_isRest_34 rfl ?_
        refine ok_if_eq (tgt := 61) dX5_isRest_36 (by decide) (fun c9 => absurd c9 (by decide)) (fun _ => ?_)
        refine ok_aload_n dX5_isRest_39 rfl rfl ?_
        refine ok_iload_n dX5_isRest_40 rfl rfl ?_
        refine ok_iconst (v := 1) dX5_isRest_41 (by decide) ?_
        refine ok_iload_n dX5_isRest_42 rfl rfl ?_
        refine ok_ishl dX5_isRest_43 ?_
        refine ok_ixor dX5_isRest_44 ?_
        rw [e1]
        refine ok_iload_n dX5_isRest_45 rfl rfl ?_
        refine ok_callV (M' := mX5_gainIn) (b' := (0, 0)) (As := [_, _]) (cx := 5) dX5_isRest_46 iX5_gainIn w_1067 (by decide) rfl (by first | exact is_lit hv (by decide) rfl | exact is_sq hv hq | exact is_row hv hq | exact is_pn hv hq (by assumption) | assumption) rfl (Nat.le_of_ble_eq_true rfl) ⟨Nat.le_of_ble_eq_true rfl, Nat.le_of_ble_eq_true rfl⟩ (Nat.le_of_ble_eq_true rfl) rfl rfl ?_
        refine sp_X5_gainIn hv R e2 hi ?_
        rw [fl_m hi10 hb, fl_b hi10 hb]
        refine ok_aload_n dX5_isRest_49 rfl rfl ?_
        refine ok_iload_n dX5_isRest_50 rfl rfl ?_
        refine ok_iload_n dX5_isRest_51 rfl rfl ?_
        refine ok_callV (M' := mX5_gainIn) (b' := (0, 0)) (As := [_, _]) (cx := 5) dX5_isRest_52 iX5_gainIn w_1067 (by decide) rfl (by first | exact is_lit hv (by decide) rfl | exact is_sq hv hq | exact is_row hv hq | exact is_pn hv hq (by assumption) | assumption) rfl (Nat.le_of_ble_eq_true rfl) ⟨Nat.le_of_ble_eq_true rfl, Nat.le_of_ble_eq_true rfl⟩ (Nat.le_of_ble_eq_true rfl) rfl rfl ?_
        refine sp_X5_gainIn hv R hb hi ?_
        refine ok_icmp_gt (tgt := 73) dX5_isRest_55 (by decide) (fun c_55 => ?_) (fun c_55 => ?_)
        · refine ok_iconst (v := 0) dX5_isRest_73 (by decide) ?_
          refine ok_istore_n (lo' := [_, _, _, _, _]) dX5_isRest_74 rfl (Nat.le_of_ble_eq_true rfl) rfl rfl ?_
          refine ok_iinc (v := _ + 1) (lo' := [_, _, _, _, _]) dX5_isRest_75 rfl rfl (Nat.le_of_ble_eq_true rfl) rfl rfl ?_
          refine ok_goto (tgt := 4) dX5_isRest_78 (by decide) ?_
          rw [nI_1]
          have e := ih (i + 1) (some (.int 1)) (by omega)
          first
            | (rw [rst_s0 c_31] at e; exact e)
            | (rw [rst_s1 c_31 ((cr_y hu eu c0).mpr (i_nlt.mp c_55))] at e; exact e)
            | (rw [rst_s2 (fun z => i_nlt.mpr ((cr_y hu eu c0).mp z) c_55)] at e; exact e)
        · refine ok_goto (tgt := 69) dX5_isRest_58 (by decide) ?_
          refine ok_iconst (v := 1) dX5_isRest_69 (by decide) ?_
          refine ok_goto (tgt := 74) dX5_isRest_70 (by decide) ?_
          refine ok_istore_n (lo' := [_, _, _, _, _]) dX5_isRest_74 rfl (Nat.le_of_ble_eq_true rfl) rfl rfl ?_
          refine ok_iinc (v := _ + 1) (lo' := [_, _, _, _, _]) dX5_isRest_75 rfl rfl (Nat.le_of_ble_eq_true rfl) rfl rfl ?_
          refine ok_goto (tgt := 4) dX5_isRest_78 (by decide) ?_
          rw [nI_1]
          have e := ih (i + 1) (some (.int 1)) (by omega)
          first
            | (rw [rst_s0 c_31] at e; exact e)
            | (rw [rst_s1 c_31 ((cr_y hu eu c0).mpr (i_nlt.mp c_55))] at e; exact e)
            | (rw [rst_s2 (fun z => i_nlt.mpr ((cr_y hu eu c0).mp z) c_55)] at e; exact e)
theorem sp_X5_isRest {g : GG} {h : Hp} {Post : Option Value → Hp → Prop} (hv : Inv h) {n : Nat} {r : Nat → Int32} (R : RM 50 h n r) (G : RG r n) {b : Nat} (hb : b < 1024) (K : Post (some (.int (w_rst r n b))) h) : Sp g mX5_isRest [.ref 49, .int (nI b)] h Post := by
  show Go g mX5_isRest 0 [_, _, _, _, _] [] _ _ _
  refine ok_iconst (v := 1) dX5_isRest_0 (by decide) ?_
  refine ok_istore_n (lo' := [_, _, _, _, _]) dX5_isRest_1 rfl (Nat.le_of_ble_eq_true rfl) rfl rfl ?_
  refine ok_iconst (v := 0) dX5_isRest_2 (by decide) ?_
  refine ok_istore_n (lo' := [_, _, _, _, _]) dX5_isRest_3 rfl (Nat.le_of_ble_eq_true rfl) rfl rfl ?_
  have e := lp_X5_isRest_4 (g := g) hv R G hb K n 0 none (by omega)
  rw [rst_z] at e
  exact e
theorem sp_X5_rests_s {g : GG} {h : Hp} {Post : Option Value → Hp → Prop} (hv : Inv h) {n : Nat} {r : Nat → Int32} (R : RM 50 h n r) (h8 : 8 < n) (K : Post (some (.int (-1000000007))) (hfm h 6)) : Sp g mX5_rests [.ref 49] h Post := by
  show Go g mX5_rests 0 [_, _, _] [] _ _ _
  have hn := R.1
  refine ok_aload_n dX5_rests_0 rfl rfl ?_
  refine ok_getR dX5_rests_1 f_X5_7 (by first | exact is_lit hv (by decide) rfl | exact is_sq hv hq | exact is_row hv hq | exact is_pn hv hq (by assumption) | assumption) rfl (by first | exact rf hv rfl | exact rf_row hv hq | assumption) ?_
  refine ok_iconst (v := 0) dX5_rests_4 (by decide) ?_
  refine ok_iaload dX5_rests_5 (is_lit hv (by decide) rfl) (by unfold vp_in; decide) ?_
  rw [show hI h 50 (Int32.toNatClampNeg 0) = nI n from (R.2.2.1 0 (by decide)).trans R.2.1]
  refine ok_bipush (v := 8) dX5_rests_6 (by decide) ?_
  refine ok_icmp_le (tgt := 18) dX5_rests_8 (by decide) (fun c9 => absurd c9 (nI_ge h8 (by omega))) (fun _ => ?_)
  refine ok_aload_n dX5_rests_11 rfl rfl ?_
  refine ok_ldc dX5_rests_12 w_1062 ?_
  refine ok_callV (M' := mX5_finds) (b' := (0, 0)) (As := [_]) (cx := 5) dX5_rests_14 iX5_finds w_850 (by decide) rfl (by first | exact is_lit hv (by decide) rfl | exact is_sq hv hq | exact is_row hv hq | exact is_pn hv hq (by assumption) | assumption) rfl (Nat.le_of_ble_eq_true rfl) ⟨Nat.le_of_ble_eq_true rfl, Nat.le_of_ble_eq_true rfl⟩ (Nat.le_of_ble_eq_true rfl) rfl rfl ?_
  refine sp_X5_finds hv (k := 6) (by decide) (by decide) ?_
  refine ok_ireturn dX5_rests_17 rfl rfl ?_
  first | exact K | (simp only [↓reduceIte] at K; exact K)
theorem sp_X5_rest_s {g : GG} {h : Hp} {Post : Option Value → Hp → Prop} (hv : Inv h) {n : Nat} {r : Nat → Int32} (R : RM 50 h n r) (h8 : 8 < n) (K : Post (some (.int (-1000000007))) (hfm h 6)) : Sp g mX5_rest [.ref 49] h Post := by
  show Go g mX5_rest 0 [_, _] [] _ _ _
  have hn := R.1
  refine ok_aload_n dX5_rest_0 rfl rfl ?_
  refine ok_getR dX5_rest_1 f_X5_7 (by first | exact is_lit hv (by decide) rfl | exact is_sq hv hq | exact is_row hv hq | exact is_pn hv hq (by assumption) | assumption) rfl (by first | exact rf hv rfl | exact rf_row hv hq | assumption) ?_
  refine ok_iconst (v := 0) dX5_rest_4 (by decide) ?_
  refine ok_iaload dX5_rest_5 (is_lit hv (by decide) rfl) (by unfold vp_in; decide) ?_
  rw [show hI h 50 (Int32.toNatClampNeg 0) = nI n from (R.2.2.1 0 (by decide)).trans R.2.1]
  refine ok_bipush (v := 8) dX5_rest_6 (by decide) ?_
  refine ok_icmp_le (tgt := 18) dX5_rest_8 (by decide) (fun c9 => absurd c9 (nI_ge h8 (by omega))) (fun _ => ?_)
  refine ok_aload_n dX5_rest_11 rfl rfl ?_
  refine ok_ldc dX5_rest_12 w_1062 ?_
  refine ok_callV (M' := mX5_finds) (b' := (0, 0)) (As := [_]) (cx := 5) dX5_rest_14 iX5_finds w_850 (by decide) rfl (by first | exact is_lit hv (by decide) rfl | exact is_sq hv hq | exact is_row hv hq | exact is_pn hv hq (by assumption) | assumption) rfl (Nat.le_of_ble_eq_true rfl) ⟨Nat.le_of_ble_eq_true rfl, Nat.le_of_ble_eq_true rfl⟩ (Nat.le_of_ble_eq_true rfl) rfl rfl ?_
  refine sp_X5_finds hv (k := 6) (by decide) (by decide) ?_
  refine ok_ireturn dX5_rest_17 rfl rfl ?_
  first | exact K | (simp only [↓reduceIte] at K; exact K)
theorem lp_X5_rests_22 {g : GG} {h : Hp} {Post : Option Value → Hp → Prop} (hv : Inv h) {n : Nat} {r : Nat → Int32} (R : RM 50 h n r) (G : RG r n) (h8 : n ≤ 8) (K : Post (some (.int (w_cnt r n (2 ^ n)))) h) : ∀ (k i : Nat), i + k = 2 ^ n → Go g mX5_rests 22 [some (.ref 49), some (.int (w_cnt r n i)), some (.int (nI i))] [] h (0, 0) Post := by
  intro k
  induction k with
  | zero =>
    intro i  hik 
    obtain rfl : i = 2 ^ n := by omega
    have hn := R.1
    have hp2 : 2 ^ n ≤ 2 ^ 8 := pow_le h8
    refine ok_iload_n dX5_rests_22 rfl rfl ?_
    refine ok_iconst (v := 1) dX5_rests_23 (by decide) ?_
    refine ok_aload_n dX5_rests_24 rfl rfl ?_
    refine ok_getR dX5_rests_25 f_X5_7 (by first | exact is_lit hv (by decide) rfl | exact is_sq hv hq | exact is_row hv hq | exact is_pn hv hq (by assumption) | assumption) rfl (by first | exact rf hv rfl | exact rf_row hv hq | assumption) ?_
    refine ok_iconst (v := 0) dX5_rests_28 (by decide) ?_
    refine ok_iaload dX5_rests_29 (is_lit hv (by decide) rfl) (by unfold vp_in; decide) ?_
    rw [show hI h 50 (Int32.toNatClampNeg 0) = nI n from (R.2.2.1 0 (by decide)).trans R.2.1]
    refine ok_ishl dX5_rests_30 ?_
    rw [shl_n n hn]
    refine ok_icmp_ge (tgt := 56) dX5_rests_31 (by decide) (fun _ => ?_) (fun c9 => absurd (nI_le (Nat.le_refl _) (by omega)) c9)
    refine ok_iload_n dX5_rests_56 rfl rfl ?_
    refine ok_ireturn dX5_rests_57 rfl rfl ?_
    first | exact K | (simp only [↓reduceIte] at K; exact K)
  | succ k ih =>
    intro i  hik 
    have hi : i < 2 ^ n := by omega
    have hn := R.1
    have hp2 : 2 ^ n ≤ 2 ^ 8 := pow_le h8
    refine ok_iload_n dX5_rests_22 rfl rfl ?_
    refine ok_iconst (v := 1) dX5_rests_23 (by decide) ?_
    refine ok_aload_n dX5_rests_24 rfl rfl ?_
    refine ok_getR dX5_rests_25 f_X5_7 (by first | exact is_lit hv (by decide) rfl | exact is_sq hv hq | exact is_row hv hq | exact is_pn hv hq (by assumption) | assumption) rfl (by first | exact rf hv rfl | exact rf_row hv hq | assumption) ?_
    refine ok_iconst (v := 0) dX5_rests_28 (by decide) ?_
    refine ok_iaload dX5_rests_29 (is_lit hv (by decide) rfl) (by unfold vp_in; decide) ?_
    rw [show hI h 50 (Int32.toNatClampNeg 0) = nI n from (R.2.2.1 0 (by decide)).trans R.2.1]
    refine ok_ishl dX5_rests_30 ?_
    rw [shl_n n hn]
    refine ok_icmp_ge (tgt := 56) dX5_rests_31 (by decide) (fun c9 => absurd c9 (nI_ge hi (by omega))) (fun _ => ?_)
    refine ok_iload_n dX5_rests_34 rfl rfl ?_
    refine ok_aload_n dX5_rests_35 rfl rfl ?_
    refine ok_iload_n dX5_rests_36 rfl rfl ?_
    refine ok_callV (M' := mX5_isRest) (b' := (0, 0)) (As := [_]) (cx := 5) dX5_rests_37 iX5_isRest w_1063 (by decide) rfl (by first | exact is_lit hv (by decide) rfl | exact is_sq hv hq | exact is_row hv hq | exact is_pn hv hq (by assumption) | assumption) rfl (Nat.le_of_ble_eq_true rfl) ⟨Nat.le_of_ble_eq_true rfl, Nat.le_of_ble_eq_true rfl⟩ (Nat.le_of_ble_eq_true rfl) rfl rfl ?_
    refine sp_X5_isRest hv R G (show i < 1024 by omega) ?_
    refine ok_if_eq (tgt := 47) dX5_rests_40 (by decide) (fun c_40 => ?_) (fun c_40 => ?_)
    · refine ok_iconst (v := 0) dX5_rests_47 (by decide) ?_
      refine ok_iadd dX5_rests_48 ?_
      refine ok_istore_n (lo' := [_, _, _]) dX5_rests_49 rfl (Nat.le_of_ble_eq_true rfl) rfl rfl ?_
      refine ok_iinc (v := _ + 1) (lo' := [_, _, _]) dX5_rests_50 rfl rfl (Nat.le_of_ble_eq_true rfl) rfl rfl ?_
      refine ok_goto (tgt := 22) dX5_rests_53 (by decide) ?_
      rw [nI_1]
      have e := ih (i + 1) (by omega)
      rw [w_cnt] at e
      first | (rw [if_pos c_40] at e; rw [Int32.add_zero]; exact e) | (rw [if_neg c_40] at e; exact e)
    · refine ok_iconst (v := 1) dX5_rests_43 (by decide) ?_
      refine ok_goto (tgt := 48) dX5_rests_44 (by decide) ?_
      refine ok_iadd dX5_rests_48 ?_
      refine ok_istore_n (lo' := [_, _, _]) dX5_rests_49 rfl (Nat.le_of_ble_eq_true rfl) rfl rfl ?_
      refine ok_iinc (v := _ + 1) (lo' := [_, _, _]) dX5_rests_50 rfl rfl (Nat.le_of_ble_eq_true rfl) rfl rfl ?_
      refine ok_goto (tgt := 22) dX5_rests_53 (by decide) ?_
      rw [nI_1]
      have e := ih (i + 1) (by omega)
      rw [w_cnt] at e
      first | (rw [if_pos c_40] at e; rw [Int32.add_zero]; exact e) | (rw [if_neg c_40] at e; exact e)
theorem sp_X5_rests {g : GG} {h : Hp} {Post : Option Value → Hp → Prop} (hv : Inv h) {n : Nat} {r : Nat → Int32} (R : RM 50 h n r) (G : RG r n) (h8 : n ≤ 8) (K : Post (some (.int (w_cnt r n (2 ^ n)))) h) : Sp g mX5_rests [.ref 49] h Post := by
  show Go g mX5_rests 0 [_, _, _] [] _ _ _
  refine ok_aload_n dX5_rests_0 rfl rfl ?_
  refine ok_getR dX5_rests_1 f_X5_7 (by first | exact is_lit hv (by decide) rfl | exact is_sq hv hq | exact is_row hv hq | exact is_pn hv hq (by assumption) | assumption) rfl (by first | exact rf hv rfl | exact rf_row hv hq | assumption) ?_
  refine ok_iconst (v := 0) dX5_rests_4 (by decide) ?_
  refine ok_iaload dX5_rests_5 (is_lit hv (by decide) rfl) (by unfold vp_in; decide) ?_
  rw [show hI h 50 (Int32.toNatClampNeg 0) = nI n from (R.2.2.1 0 (by decide)).trans R.2.1]
  refine ok_bipush (v := 8) dX5_rests_6 (by decide) ?_
  refine ok_icmp_le (tgt := 18) dX5_rests_8 (by decide) (fun _ => ?_) (fun c9 => absurd (nI_le h8 (by omega)) c9)
  refine ok_iconst (v := 0) dX5_rests_18 (by decide) ?_
  refine ok_istore_n (lo' := [_, _, _]) dX5_rests_19 rfl (Nat.le_of_ble_eq_true rfl) rfl rfl ?_
  refine ok_iconst (v := 0) dX5_rests_20 (by decide) ?_
  refine ok_istore_n (lo' := [_, _, _]) dX5_rests_21 rfl (Nat.le_of_ble_eq_true rfl) rfl rfl ?_
  exact lp_X5_rests_22 hv R G h8 K (2 ^ n) 0 (by omega)
theorem lp_X5_rest_20 {g : GG} {h : Hp} {Post : Option Value → Hp → Prop} (hv : Inv h) {n : Nat} {r : Nat → Int32} (R : RM 50 h n r) (G : RG r n) (h8 : n ≤ 8) {m : Nat} (hm : m < 2 ^ n) (he : ¬ w_rst r n m = 0) (hne : ∀ b, b < m → w_rst r n b = 0) (K : Post (some (.int (nI m))) h) : ∀ (k i : Nat), i + k = m → Go g mX5_rest 20 [some (.ref 49), some (.int (nI i))] [] h (0, 0) Post := by
  intro k
  induction k with
  | zero =>
    intro i  hik 
    obtain rfl : i = m := by omega
    have hn := R.1
    have hp2 : 2 ^ n ≤ 2 ^ 8 := pow_le h8
    refine ok_iload_n dX5_rest_20 rfl rfl ?_
    refine ok_iconst (v := 1) dX5_rest_21 (by decide) ?_
    refine ok_aload_n dX5_rest_22 rfl rfl ?_
    refine ok_getR dX5_rest_23 f_X5_7 (by first | exact is_lit hv (by decide) rfl | exact is_sq hv hq | exact is_row hv hq | exact is_pn hv hq (by assumption) | assumption) rfl (by first | exact rf hv rfl | exact rf_row hv hq | assumption) ?_
    refine ok_iconst (v := 0) dX5_rest_26 (by decide) ?_
    refine ok_iaload dX5_rest_27 (is_lit hv (by decide) rfl) (by unfold vp_in; decide) ?_
    rw [show hI h 50 (Int32.toNatClampNeg 0) = nI n from (R.2.2.1 0 (by decide)).trans R.2.1]
    refine ok_ishl dX5_rest_28 ?_
    rw [shl_n n hn]
    refine ok_icmp_ge (tgt := 46) dX5_rest_29 (by decide) (fun c9 => absurd c9 (nI_ge hm (by omega))) (fun _ => ?_)
    refine ok_aload_n dX5_rest_32 rfl rfl ?_
    refine ok_iload_n dX5_rest_33 rfl rfl ?_
    refine ok_callV (M' := mX5_isRest) (b' := (0, 0)) (As := [_]) (cx := 5) dX5_rest_34 iX5_isRest w_1063 (by decide) rfl (by first | exact is_lit hv (by decide) rfl | exact is_sq hv hq | exact is_row hv hq | exact is_pn hv hq (by assumption) | assumption) rfl (Nat.le_of_ble_eq_true rfl) ⟨Nat.le_of_ble_eq_true rfl, Nat.le_of_ble_eq_true rfl⟩ (Nat.le_of_ble_eq_true rfl) rfl rfl ?_
    refine sp_X5_isRest hv R G (show i < 1024 by omega) ?_
    refine ok_if_ne (tgt := 46) dX5_rest_37 (by decide) (fun _ => ?_) (fun c9 => absurd c9 he)
    refine ok_iload_n dX5_rest_46 rfl rfl ?_
    refine ok_iconst (v := 1) dX5_rest_47 (by decide) ?_
    refine ok_aload_n dX5_rest_48 rfl rfl ?_
    refine ok_getR dX5_rest_49 f_X5_7 (by first | exact is_lit hv (by decide) rfl | exact is_sq hv hq | exact is_row hv hq | exact is_pn hv hq (by assumption) | assumption) rfl (by first | exact rf hv rfl | exact rf_row hv hq | assumption) ?_
    refine ok_iconst (v := 0) dX5_rest_52 (by decide) ?_
    refine ok_iaload dX5_rest_53 (is_lit hv (by decide) rfl) (by unfold vp_in; decide) ?_
    rw [show hI h 50 (Int32.toNatClampNeg 0) = nI n from (R.2.2.1 0 (by decide)).trans R.2.1]
    refine ok_ishl dX5_rest_54 ?_
    rw [shl_n n hn]
    refine ok_icmp_ge (tgt := 62) dX5_rest_55 (by decide) (fun c9 => absurd c9 (nI_ge hm (by omega))) (fun _ => ?_)
    refine ok_iload_n dX5_rest_58 rfl rfl ?_
    refine ok_goto (tgt := 68) dX5_rest_59 (by decide) ?_
    refine ok_ireturn dX5_rest_68 rfl rfl ?_
    first | exact K | (simp only [↓reduceIte] at K; exact K)
  | succ k ih =>
    intro i  hik 
    have hi : i < m := by omega
    have hn := R.1
    have hp2 : 2 ^ n ≤ 2 ^ 8 := pow_le h8
    refine ok_iload_n dX5_rest_20 rfl rfl ?_
    refine ok_iconst (v := 1) dX5_rest_21 (by decide) ?_
    refine ok_aload_n dX5_rest_22 rfl rfl ?_
    refine ok_getR dX5_rest_23 f_X5_7 (by first | exact is_lit hv (by decide) rfl | exact is_sq hv hq | exact is_row hv hq | exact is_pn hv hq (by assumption) | assumption) rfl (by first | exact rf hv rfl | exact rf_row hv hq | assumption) ?_
    refine ok_iconst (v := 0) dX5_rest_26 (by decide) ?_
    refine ok_iaload dX5_rest_27 (is_lit hv (by decide) rfl) (by unfold vp_in; decide) ?_
    rw [show hI h 50 (Int32.toNatClampNeg 0) = nI n from (R.2.2.1 0 (by decide)).trans R.2.1]
    refine ok_ishl dX5_rest_28 ?_
    rw [shl_n n hn]
    refine ok_icmp_ge (tgt := 46) dX5_rest_29 (by decide) (fun c9 => absurd c9 (nI_ge (by omega) (by omega))) (fun _ => ?_)
    refine ok_aload_n dX5_rest_32 rfl rfl ?_
    refine ok_iload_n dX5_rest_33 rfl rfl ?_
    refine ok_callV (M' := mX5_isRest) (b' := (0, 0)) (As := [_]) (cx := 5) dX5_rest_34 iX5_isRest w_1063 (by decide) rfl (by first | exact is_lit hv (by decide) rfl | exact is_sq hv hq | exact is_row hv hq | exact is_pn hv hq (by assumption) | assumption) rfl (Nat.le_of_ble_eq_true rfl) ⟨Nat.le_of_ble_eq_true rfl, Nat.le_of_ble_eq_true rfl⟩ (Nat.le_of_ble_eq_true rfl) rfl rfl ?_
    refine sp_X5_isRest hv R G (show i < 1024 by omega) ?_
    refine ok_if_ne (tgt := 46) dX5_rest_37 (by decide) (fun c9 => absurd c9 (fun c => c (hne i hi))) (fun _ => ?_)
    refine ok_iinc (v := _ + 1) (lo' := [_, _]) dX5_rest_40 rfl rfl (Nat.le_of_ble_eq_true rfl) rfl rfl ?_
    refine ok_goto (tgt := 20) dX5_rest_43 (by decide) ?_
    rw [nI_1]
    exact ih (i + 1) (by omega)
theorem lp_X5_rest_20n {g : GG} {h : Hp} {Post : Option Value → Hp → Prop} (hv : Inv h) {n : Nat} {r : Nat → Int32} (R : RM 50 h n r) (G : RG r n) (h8 : n ≤ 8) (hne : ∀ b, b < 2 ^ n → w_rst r n b = 0) (K : Post (some (.int (-1000000004))) (hfm h 3)) : ∀ (k i : Nat), i + k = 2 ^ n → Go g mX5_rest 20 [some (.ref 49), some (.int (nI i))] [] h (0, 0) Post := by
  intro k
  induction k with
  | zero =>
    intro i  hik 
    obtain rfl : i = 2 ^ n := by omega
    have hn := R.1
    have hp2 : 2 ^ n ≤ 2 ^ 8 := pow_le h8
    refine ok_iload_n dX5_rest_20 rfl rfl ?_
    refine ok_iconst (v := 1) dX5_rest_21 (by decide) ?_
    refine ok_aload_n dX5_rest_22 rfl rfl ?_
    refine ok_getR dX5_rest_23 f_X5_7 (by first | exact is_lit hv (by decide) rfl | exact is_sq hv hq | exact is_row hv hq | exact is_pn hv hq (by assumption) | assumption) rfl (by first | exact rf hv rfl | exact rf_row hv hq | assumption) ?_
    refine ok_iconst (v := 0) dX5_rest_26 (by decide) ?_
    refine ok_iaload dX5_rest_27 (is_lit hv (by decide) rfl) (by unfold vp_in; decide) ?_
    rw [show hI h 50 (Int32.toNatClampNeg 0) = nI n from (R.2.2.1 0 (by decide)).trans R.2.1]
    refine ok_ishl dX5_rest_28 ?_
    rw [shl_n n hn]
    refine ok_icmp_ge (tgt := 46) dX5_rest_29 (by decide) (fun _ => ?_) (fun c9 => absurd (nI_le (Nat.le_refl _) (by omega)) c9)
    refine ok_iload_n dX5_rest_46 rfl rfl ?_
    refine ok_iconst (v := 1) dX5_rest_47 (by decide) ?_
    refine ok_aload_n dX5_rest_48 rfl rfl ?_
    refine ok_getR dX5_rest_49 f_X5_7 (by first | exact is_lit hv (by decide) rfl | exact is_sq hv hq | exact is_row hv hq | exact is_pn hv hq (by assumption) | assumption) rfl (by first | exact rf hv rfl | exact rf_row hv hq | assumption) ?_
    refine ok_iconst (v := 0) dX5_rest_52 (by decide) ?_
    refine ok_iaload dX5_rest_53 (is_lit hv (by decide) rfl) (by unfold vp_in; decide) ?_
    rw [show hI h 50 (Int32.toNatClampNeg 0) = nI n from (R.2.2.1 0 (by decide)).trans R.2.1]
    refine ok_ishl dX5_rest_54 ?_
    rw [shl_n n hn]
    refine ok_icmp_ge (tgt := 62) dX5_rest_55 (by decide) (fun _ => ?_) (fun c9 => absurd (nI_le (Nat.le_refl _) (by omega)) c9)
    refine ok_aload_n dX5_rest_62 rfl rfl ?_
    refine ok_ldc dX5_rest_63 w_1000 ?_
    refine ok_callV (M' := mX5_finds) (b' := (0, 0)) (As := [_]) (cx := 5) dX5_rest_65 iX5_finds w_850 (by decide) rfl (by first | exact is_lit hv (by decide) rfl | exact is_sq hv hq | exact is_row hv hq | exact is_pn hv hq (by assumption) | assumption) rfl (Nat.le_of_ble_eq_true rfl) ⟨Nat.le_of_ble_eq_true rfl, Nat.le_of_ble_eq_true rfl⟩ (Nat.le_of_ble_eq_true rfl) rfl rfl ?_
    refine sp_X5_finds hv (k := 3) (by decide) (by decide) ?_
    refine ok_ireturn dX5_rest_68 rfl rfl ?_
    first | exact K | (simp only [↓reduceIte] at K; exact K)
  | succ k ih =>
    intro i  hik 
    have hi : i < 2 ^ n := by omega
    have hn := R.1
    have hp2 : 2 ^ n ≤ 2 ^ 8 := pow_le h8
    refine ok_iload_n dX5_rest_20 rfl rfl ?_
    refine ok_iconst (v := 1) dX5_rest_21 (by decide) ?_
    refine ok_aload_n dX5_rest_22 rfl rfl ?_
    refine ok_getR dX5_rest_23 f_X5_7 (by first | exact is_lit hv (by decide) rfl | exact is_sq hv hq | exact is_row hv hq | exact is_pn hv hq (by assumption) | assumption) rfl (by first | exact rf hv rfl | exact rf_row hv hq | assumption) ?_
    refine ok_iconst (v := 0) dX5_rest_26 (by decide) ?_
    refine ok_iaload dX5_rest_27 (is_lit hv (by decide) rfl) (by unfold vp_in; decide) ?_
    rw [show hI h 50 (Int32.toNatClampNeg 0) = nI n from (R.2.2.1 0 (by decide)).trans R.2.1]
    refine ok_ishl dX5_rest_28 ?_
    rw [shl_n n hn]
    refine ok_icmp_ge (tgt := 46) dX5_rest_29 (by decide) (fun c9 => absurd c9 (nI_ge (by omega) (by omega))) (fun _ => ?_)
    refine ok_aload_n dX5_rest_32 rfl rfl ?_
    refine ok_iload_n dX5_rest_33 rfl rfl ?_
    refine ok_callV (M' := mX5_isRest) (b' := (0, 0)) (As := [_]) (cx := 5) dX5_rest_34 iX5_isRest w_1063 (by decide) rfl (by first | exact is_lit hv (by decide) rfl | exact is_sq hv hq | exact is_row hv hq | exact is_pn hv hq (by assumption) | assumption) rfl (Nat.le_of_ble_eq_true rfl) ⟨Nat.le_of_ble_eq_true rfl, Nat.le_of_ble_eq_true rfl⟩ (Nat.le_of_ble_eq_true rfl) rfl rfl ?_
    refine sp_X5_isRest hv R G (show i < 1024 by omega) ?_
    refine ok_if_ne (tgt := 46) dX5_rest_37 (by decide) (fun c9 => absurd c9 (fun c => c (hne i hi))) (fun _ => ?_)
    refine ok_iinc (v := _ + 1) (lo' := [_, _]) dX5_rest_40 rfl rfl (Nat.le_of_ble_eq_true rfl) rfl rfl ?_
    refine ok_goto (tgt := 20) dX5_rest_43 (by decide) ?_
    rw [nI_1]
    exact ih (i + 1) (by omega)
theorem sp_X5_rest {g : GG} {h : Hp} {Post : Option Value → Hp → Prop} (hv : Inv h) {n : Nat} {r : Nat → Int32} (R : RM 50 h n r) (G : RG r n) (h8 : n ≤ 8) {m : Nat} (hm : m < 2 ^ n) (he : ¬ w_rst r n m = 0) (hne : ∀ b, b < m → w_rst r n b = 0) (K : Post (some (.int (nI m))) h) : Sp g mX5_rest [.ref 49] h Post := by
  show Go g mX5_rest 0 [_, _] [] _ _ _
  refine ok_aload_n dX5_rest_0 rfl rfl ?_
  refine ok_getR dX5_rest_1 f_X5_7 (by first | exact is_lit hv (by decide) rfl | exact is_sq hv hq | exact is_row hv hq | exact is_pn hv hq (by assumption) | assumption) rfl (by first | exact rf hv rfl | exact rf_row hv hq | assumption) ?_
  refine ok_iconst (v := 0) dX5_rest_4 (by decide) ?_
  refine ok_iaload dX5_rest_5 (is_lit hv (by decide) rfl) (by unfold vp_in; decide) ?_
  rw [show hI h 50 (Int32.toNatClampNeg 0) = nI n from (R.2.2.1 0 (by decide)).trans R.2.1]
  refine ok_bipush (v := 8) dX5_rest_6 (by decide) ?_
  refine ok_icmp_le (tgt := 18) dX5_rest_8 (by decide) (fun _ => ?_) (fun c9 => absurd (nI_le h8 (by omega)) c9)
  refine ok_iconst (v := 0) dX5_rest_18 (by decide) ?_
  refine ok_istore_n (lo' := [_, _]) dX5_rest_19 rfl (Nat.le_of_ble_eq_true rfl) rfl rfl ?_
  exact lp_X5_rest_20 hv R G h8 hm he hne K m 0 (by omega)
theorem sp_X5_rest_n {g : GG} {h : Hp} {Post : Option Value → Hp → Prop} (hv : Inv h) {n : Nat} {r : Nat → Int32} (R : RM 50 h n r) (G : RG r n) (h8 : n ≤ 8) (hne : ∀ b, b < 2 ^ n → w_rst r n b = 0) (K : Post (some (.int (-1000000004))) (hfm h 3)) : Sp g mX5_rest [.ref 49] h Post := by
  show Go g mX5_rest 0 [_, _] [] _ _ _
  refine ok_aload_n dX5_rest_0 rfl rfl ?_
  refine ok_getR dX5_rest_1 f_X5_7 (by first | exact is_lit hv (by decide) rfl | exact is_sq hv hq | exact is_row hv hq | exact is_pn hv hq (by assumption) | assumption) rfl (by first | exact rf hv rfl | exact rf_row hv hq | assumption) ?_
  refine ok_iconst (v := 0) dX5_rest_4 (by decide) ?_
  refine ok_iaload dX5_rest_5 (is_lit hv (by decide) rfl) (by unfold vp_in; decide) ?_
  rw [show hI h 50 (Int32.toNatClampNeg 0) = nI n from (R.2.2.1 0 (by decide)).trans R.2.1]
  refine ok_bipush (v := 8) dX5_rest_6 (by decide) ?_
  refine ok_icmp_le (tgt := 18) dX5_rest_8 (by decide) (fun _ => ?_) (fun c9 => absurd (nI_le h8 (by omega)) c9)
  refine ok_iconst (v := 0) dX5_rest_18 (by decide) ?_
  refine ok_istore_n (lo' := [_, _]) dX5_rest_19 rfl (Nat.le_of_ble_eq_true rfl) rfl rfl ?_
  exact lp_X5_rest_20n hv R G h8 hne K (2 ^ n) 0 (by omega)
