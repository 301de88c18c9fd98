/-! ===== the reference: its row ===== -/
/-- a row of the reference, at an array -/
def RM (a : Nat) (h : Hp) (n : Nat) (r : Nat → Int32) : Prop := n ≤ 10 ∧ r 0 = nI n ∧ (∀ k, k < 7 → hI h a k = r k) ∧ ∀ p f, p < n → f < 7 → hI h a (7 + 7 * p + f) = ro r p f
theorem ix7 : ∀ p, p < 10 → ∀ f, f < 7 → 7 + 7 * nI p + nI f = nI (7 + 7 * p + f) := by decide +kernel
theorem RM.u {h : Hp} {n k : Nat} {r : Nat → Int32} {v : Int32} (R : RM 50 h n r) (hk : k ≠ 0) : RM 50 (uI h 50 k v) n (w_set r k v) := by
  obtain ⟨h1, h2, h3, h4⟩ := R
  refine ⟨h1, (if_neg (fun e => hk e.symm)).trans h2, fun j hj => ?_, fun p f hp hf => ?_⟩
  · show (if 50 = 50 ∧ j = k then v else h.1 50 j) = if j = k then v else r j
    by_cases e : j = k
    · rw [if_pos ⟨rfl, e⟩, if_pos e]
    · rw [if_neg (fun c => e c.2), if_neg e]; exact h3 j hj
  · show (if 50 = 50 ∧ 7 + 7 * p + f = k then v else h.1 50 (7 + 7 * p + f)) = if 7 + 7 * p + f = k then v else r (7 + 7 * p + f)
    by_cases e : 7 + 7 * p + f = k
    · rw [if_pos ⟨rfl, e⟩, if_pos e]
    · rw [if_neg (fun c => e c.2), if_neg e]; exact h4 p f hp hf
/-- what stays of the reference while it tries: all but its row and what it works with -/
def QM (h h' : Hp) : Prop := h'.2.2 = h.2.2 ∧ (∀ a, a ≠ 49 → a ≠ 50 → a ≠ 52 → a ≠ 53 → h'.1 a = h.1 a) ∧ h'.2.1 = h.2.1 ∧ h'.1 49 7 = h.1 49 7 ∧ h'.1 49 20 = h.1 49 20
def TM (h h' : Hp) : Prop := QM h h' ∧ h'.1 50 = h.1 50
theorem QM.rf {h : Hp} : QM h h := ⟨rfl, fun _ _ _ _ _ => rfl, rfl, rfl, rfl⟩
theorem QM.tr {h h' h'' : Hp} (a : QM h h') (b : QM h' h'') : QM h h'' := ⟨b.1.trans a.1, fun x h1 h2 h3 h4 => (b.2.1 x h1 h2 h3 h4).trans (a.2.1 x h1 h2 h3 h4), b.2.2.1.trans a.2.2.1, b.2.2.2.1.trans a.2.2.2.1, b.2.2.2.2.trans a.2.2.2.2⟩
theorem TM.rf {h : Hp} : TM h h := ⟨QM.rf, rfl⟩
theorem TM.tr {h h' h'' : Hp} (a : TM h h') (b : TM h' h'') : TM h h'' := ⟨a.1.tr b.1, b.2.trans a.2⟩
theorem QM.inv {h h' : Hp} (M : QM h h') (hv : Inv h) : Inv h' := by show InvR h'.2.2; rw [M.1]; exact hv
theorem TM.rm {h h' : Hp} {n : Nat} {r : Nat → Int32} (M : TM h h') (R : RM 50 h n r) : RM 50 h' n r := ⟨R.1, R.2.1, fun k hk => by show h'.1 50 k = _; rw [M.2]; exact R.2.2.1 k hk, fun p f hp hf => by show h'.1 50 _ = _; rw [M.2]; exact R.2.2.2 p f hp hf⟩
theorem QM.u {h h' : Hp} (M : QM h h') {a k : Nat} {v : Int32} (ha : a = 50 ∨ a = 52 ∨ a = 53 ∨ (a = 49 ∧ k ≠ 7 ∧ k ≠ 20)) : QM h (uI h' a k v) := by
  refine ⟨M.1, fun x h1 h2 h3 h4 => (funext fun _ => if_neg (fun e => by omega)).trans (M.2.1 x h1 h2 h3 h4), M.2.2.1, (if_neg (fun e => by omega)).trans M.2.2.2.1, (if_neg (fun e => by omega)).trans M.2.2.2.2⟩
theorem TM.u {h h' : Hp} (M : TM h h') {a k : Nat} {v : Int32} (ha : a = 52 ∨ a = 53 ∨ (a = 49 ∧ k ≠ 7 ∧ k ≠ 20)) : TM h (uI h' a k v) := ⟨M.1.u (by omega), (funext fun _ => if_neg (fun e => by omega)).trans M.2⟩
/-- the row alone -/
def QR (h h' : Hp) : Prop := h'.2 = h.2 ∧ ∀ a, a ≠ 50 → h'.1 a = h.1 a
theorem QR.rf {h : Hp} : QR h h := ⟨rfl, fun _ _ => rfl⟩
theorem QR.tr {h h' h'' : Hp} (a : QR h h') (b : QR h' h'') : QR h h'' := ⟨b.1.trans a.1, fun x h1 => (b.2 x h1).trans (a.2 x h1)⟩
theorem QR.inv {h h' : Hp} (M : QR h h') (hv : Inv h) : Inv h' := hv.of M.1
theorem QR.qm {h h' : Hp} (M : QR h h') : QM h h' := ⟨congrArg (·.2) M.1, fun x _ h2 _ _ => M.2 x h2, congrArg (·.1) M.1, congrFun (M.2 49 (by decide)) 7, congrFun (M.2 49 (by decide)) 20⟩
theorem QR.u {h h' : Hp} (M : QR h h') {a k : Nat} {v : Int32} (ha : a = 50) : QR h (uI h' a k v) := ⟨M.1, fun x h1 => (funext fun _ => if_neg (fun e => by omega)).trans (M.2 x h1)⟩
theorem lt_last {n k : Nat} (hn : n ≤ 100) (hk : k ≤ 100) : nI n - 1 < nI k ↔ n ≤ k := by
  have e1 : (1 : Int32).toInt = 1 := rfl
  rw [i_lt, fb_subI (by rw [nI_toInt (by omega), e1]; omega) (by rw [nI_toInt (by omega), e1]; omega), nI_toInt (by omega), nI_toInt (by omega), e1]
  omega
def hfm (h : Hp) (k : Nat) : Hp := uI h 51 k (hI h 51 k + 1)
theorem sp_X5_in {g : GG} {h : Hp} {Post : Option Value → Hp → Prop} (v l u : Int32) (K : Post (some (.int (if v < l then 0 else if u < v then 0 else 1))) h) : Sp g mX5_in [.int v, .int l, .int u] h Post := by
  show Go g mX5_in 0 [_, _, _] [] _ _ _
  refine ok_iload_n dX5_in_0 rfl rfl ?_
  refine ok_iload_n dX5_in_1 rfl rfl ?_
  refine ok_icmp_lt (tgt := 14) dX5_in_2 (by decide) (fun c_2 => ?_) (fun c_2 => ?_)
  · refine ok_iconst (v := 0) dX5_in_14 (by decide) ?_
    refine ok_ireturn dX5_in_15 rfl rfl ?_
    first | exact K | (simp only [c_2, ↓reduceIte] at K; exact K)
  · refine ok_iload_n dX5_in_5 rfl rfl ?_
    refine ok_iload_n dX5_in_6 rfl rfl ?_
    refine ok_icmp_gt (tgt := 14) dX5_in_7 (by decide) (fun c_7 => ?_) (fun c_7 => ?_)
    · refine ok_iconst (v := 0) dX5_in_14 (by decide) ?_
      refine ok_ireturn dX5_in_15 rfl rfl ?_
      first | exact K | (simp only [c_2, c_7, ↓reduceIte] at K; exact K)
    · refine ok_iconst (v := 1) dX5_in_10 (by decide) ?_
      refine ok_goto (tgt := 15) dX5_in_11 (by decide) ?_
      refine ok_ireturn dX5_in_15 rfl rfl ?_
      first | exact K | (simp only [c_2, c_7, ↓reduceIte] at K; exact K)
theorem sp_X5_finds {g : GG} {h : Hp} {Post : Option Value → Hp → Prop} (hv : Inv h) {k : Nat} (hk : k < 7) {c : Int32} (hc : (-1000000001 : Int32) - c = nI k) (K : Post (some (.int c)) (hfm h k)) : Sp g mX5_finds [.ref 49, .int c] h Post := by
  show Go g mX5_finds 0 [_, _] [] _ _ _
  refine ok_aload_n dX5_finds_0 rfl rfl ?_
  refine ok_getR dX5_finds_1 f_X5_13 (by first | exact is_lit hv (by decide) rfl | exact is_sq hv hq | exact is_row hv hq | exact is_pn hv hq (by assumption) | assumption) rfl (by first | exact rf hv rfl | exact rf_row hv hq | assumption) ?_
  refine ok_ldc dX5_finds_4 w_849 ?_
  refine ok_iload_n dX5_finds_6 rfl rfl ?_
  refine ok_isub dX5_finds_7 ?_
  rw [hc]
  refine ok_dup2 dX5_finds_8 rfl rfl ?_
  refine ok_iaload dX5_finds_9 (is_lit hv (by decide) rfl) (vp_in_nI hk (by decide)) ?_
  refine ok_iconst (v := 1) dX5_finds_10 (by decide) ?_
  refine ok_iadd dX5_finds_11 ?_
  refine ok_iastore dX5_finds_12 (is_lit hv (by decide) rfl) (vp_in_nI hk (by decide)) ?_
  rw [nI_clamp (by omega)]
  refine ok_iload_n dX5_finds_13 rfl rfl ?_
  refine ok_ireturn dX5_finds_14 rfl rfl ?_
  first | exact K | (simp only [↓reduceIte] at K; exact K)
theorem sp_X5_its {g : GG} {h : Hp} {Post : Option Value → Hp → Prop} (hv : Inv h) {n : Nat} {r : Nat → Int32} (R : RM 50 h n r) {p f : Nat} (hp : p < n) (hf : f < 7) (K : Post (some (.int (ro r p f))) h) : Sp g mX5_its [.ref 49, .int (nI p), .int (nI f)] h Post := by
  show Go g mX5_its 0 [_, _, _] [] _ _ _
  have hn := R.1
  refine ok_aload_n dX5_its_0 rfl rfl ?_
  refine ok_getR dX5_its_1 f_X5_7 (by first | exact is_lit hv (by decide) rfl | exact is_sq hv hq | exact is_row hv hq | exact is_pn hv hq (by assumption) | assumption) rfl (by first | exact rf hv rfl | exact rf_row hv hq | assumption) ?_
  refine ok_bipush (v := 7) dX5_its_4 (by decide) ?_
  refine ok_bipush (v := 7) dX5_its_6 (by decide) ?_
  refine ok_iload_n dX5_its_8 rfl rfl ?_
  refine ok_imul dX5_its_9 ?_
  refine ok_iadd dX5_its_10 ?_
  refine ok_iload_n dX5_its_11 rfl rfl ?_
  refine ok_iadd dX5_its_12 ?_
  rw [ix7 p (by omega) f hf]
  refine ok_iaload dX5_its_13 (is_lit hv (by decide) rfl) (vp_in_nI (by omega) (by decide)) ?_
  rw [nI_clamp (by omega), R.2.2.2 p f hp hf]
  refine ok_ireturn dX5_its_14 rfl rfl ?_
  first | exact K | (simp only [↓reduceIte] at K; exact K)
theorem sp_X5_sets {g : GG} {h : Hp} {Post : Option Value → Hp → Prop} (hv : Inv h) {p f : Nat} (hp : p < 10) (hf : f < 7) (v : Int32) (K : Post none (uI h 50 (7 + 7 * p + f) v)) : Sp g mX5_sets [.ref 49, .int (nI p), .int (nI f), .int v] h Post := by
  show Go g mX5_sets 0 [_, _, _, _] [] _ _ _
  refine ok_aload_n dX5_sets_0 rfl rfl ?_
  refine ok_getR dX5_sets_1 f_X5_7 (by first | exact is_lit hv (by decide) rfl | exact is_sq hv hq | exact is_row hv hq | exact is_pn hv hq (by assumption) | assumption) rfl (by first | exact rf hv rfl | exact rf_row hv hq | assumption) ?_
  refine ok_bipush (v := 7) dX5_sets_4 (by decide) ?_
  refine ok_bipush (v := 7) dX5_sets_6 (by decide) ?_
  refine ok_iload_n dX5_sets_8 rfl rfl ?_
  refine ok_imul dX5_sets_9 ?_
  refine ok_iadd dX5_sets_10 ?_
  refine ok_iload_n dX5_sets_11 rfl rfl ?_
  refine ok_iadd dX5_sets_12 ?_
  rw [ix7 p hp f hf]
  refine ok_iload_n dX5_sets_13 rfl rfl ?_
  refine ok_iastore dX5_sets_14 (is_lit hv (by decide) rfl) (vp_in_nI (by omega) (by decide)) ?_
  rw [nI_clamp (by omega)]
  refine ok_return dX5_sets_15 rfl ?_
  first | exact K | (simp only [↓reduceIte] at K; exact K)
theorem one_bad {p : Int32} {n : Nat} (hn : n ≤ 10) (hb : p < 0 ∨ nI n ≤ p) : (if p < 0 then (0 : Int32) else if nI n - 1 < p then 0 else 1) = 0 := by
  rcases hb with h | h
  · rw [if_pos h]
  · have e1 : (1 : Int32).toInt = 1 := rfl
    rw [i_le, nI_toInt (by omega)] at h
    have : nI n - 1 < p := by
      rw [i_lt, fb_subI (by rw [nI_toInt (by omega), e1]; omega) (by rw [nI_toInt (by omega), e1]; omega), nI_toInt (by omega), e1]
      omega
    rw [if_pos this]
    split <;> rfl
theorem one_ok {n j : Nat} (hn : n ≤ 10) (hj : j < n) : (if nI j < 0 then (0 : Int32) else if nI n - 1 < nI j then 0 else 1) = 1 := by
  rw [if_neg (nI_pos (by omega)), if_neg (fun c => by have := (lt_last (by omega) (by omega)).mp c; omega)]
theorem kd_bad5 {k : Int32} (hb : k < 0 ∨ 6 ≤ k) : (if k < 0 then (0 : Int32) else if 5 < k then 0 else 1) = 0 := by
  rcases hb with h | h
  · rw [if_pos h]
  · have h2 : (5 : Int32) < k := by
      rw [i_le] at h
      rw [i_lt]
      have e6 : (6 : Int32).toInt = 6 := rfl
      have e5 : (5 : Int32).toInt = 5 := rfl
      omega
    rw [if_pos h2]
    split <;> rfl
theorem kd_ok5 {k : Int32} (hk : Kd k) : (if k < 0 then (0 : Int32) else if 5 < k then 0 else 1) = 1 := by
  rcases hk with rfl | rfl | rfl | rfl | rfl | rfl <;> rfl
theorem b01_in (v l u : Int32) : B01 (if v < l then 0 else if u < v then 0 else 1) := by
  split
  · exact Or.inl rfl
  · split
    · exact Or.inl rfl
    · exact Or.inr rfl
theorem sp_X5_isOne {g : GG} {h : Hp} {Post : Option Value → Hp → Prop} (hv : Inv h) {n : Nat} {r : Nat → Int32} (R : RM 50 h n r) (p : Int32) (K : Post (some (.int (if p < 0 then 0 else if nI n - 1 < p then 0 else 1))) h) : Sp g mX5_isOne [.ref 49, .int p] h Post := by
  show Go g mX5_isOne 0 [_, _] [] _ _ _
  refine ok_iload_n dX5_isOne_0 rfl rfl ?_
  refine ok_iconst (v := 0) dX5_isOne_1 (by decide) ?_
  refine ok_aload_n dX5_isOne_2 rfl rfl ?_
  refine ok_getR dX5_isOne_3 f_X5_7 (by first | exact is_lit hv (by decide) rfl | exact is_sq hv hq | exact is_row hv hq | exact is_pn hv hq (by assumption) | assumption) rfl (by first | exact rf hv rfl | exact rf_row hv hq | assumption) ?_
  refine ok_iconst (v := 0) dX5_isOne_6 (by decide) ?_
  refine ok_iaload dX5_isOne_7 (is_lit hv (by decide) rfl) (by unfold vp_in; decide) ?_
  rw [show hI h 50 (Int32.toNatClampNeg 0) = r 0 from R.2.2.1 0 (by decide)]
  rw [R.2.1]
  refine ok_iconst (v := 1) dX5_isOne_8 (by decide) ?_
  refine ok_isub dX5_isOne_9 ?_
  refine ok_callS (M' := mX5_in) (b' := (0, 0)) (As := [_, _, _]) dX5_isOne_10 iX5_in w_846 rfl (Nat.le_of_ble_eq_true rfl) ⟨Nat.le_of_ble_eq_true rfl, Nat.le_of_ble_eq_true rfl⟩ (Nat.le_of_ble_eq_true rfl) rfl rfl ?_
  refine sp_X5_in _ _ _ ?_
  refine ok_ireturn dX5_isOne_13 rfl (nar_b (b01_in _ _ _)) ?_
  exact K
theorem sp_X5_isKind {g : GG} {h : Hp} {Post : Option Value → Hp → Prop} (v : Int32) (K : Post (some (.int (if v < 0 then 0 else if 5 < v then 0 else 1))) h) : Sp g mX5_isKind [.int v] h Post := by
  show Go g mX5_isKind 0 [_] [] _ _ _
  refine ok_iload_n dX5_isKind_0 rfl rfl ?_
  refine ok_iconst (v := 0) dX5_isKind_1 (by decide) ?_
  refine ok_iconst (v := 5) dX5_isKind_2 (by decide) ?_
  refine ok_callS (M' := mX5_in) (b' := (0, 0)) (As := [_, _, _]) dX5_isKind_3 iX5_in w_846 rfl (Nat.le_of_ble_eq_true rfl) ⟨Nat.le_of_ble_eq_true rfl, Nat.le_of_ble_eq_true rfl⟩ (Nat.le_of_ble_eq_true rfl) rfl rfl ?_
  refine sp_X5_in _ _ _ ?_
  refine ok_ireturn dX5_isKind_6 rfl (nar_b (b01_in _ _ _)) ?_
  exact K
theorem sp_X5_isSheet {g : GG} {h : Hp} {Post : Option Value → Hp → Prop} (v : Int32) (K : Post (some (.int (if v < 0 then 0 else if 3 < v then 0 else 1))) h) : Sp g mX5_isSheet [.int v] h Post := by
  show Go g mX5_isSheet 0 [_] [] _ _ _
  refine ok_iload_n dX5_isSheet_0 rfl rfl ?_
  refine ok_iconst (v := 0) dX5_isSheet_1 (by decide) ?_
  refine ok_iconst (v := 3) dX5_isSheet_2 (by decide) ?_
  refine ok_callS (M' := mX5_in) (b' := (0, 0)) (As := [_, _, _]) dX5_isSheet_3 iX5_in w_846 rfl (Nat.le_of_ble_eq_true rfl) ⟨Nat.le_of_ble_eq_true rfl, Nat.le_of_ble_eq_true rfl⟩ (Nat.le_of_ble_eq_true rfl) rfl rfl ?_
  refine sp_X5_in _ _ _ ?_
  refine ok_ireturn dX5_isSheet_6 rfl (nar_b (b01_in _ _ _)) ?_
  exact K
theorem sp_X5_isLetter {g : GG} {h : Hp} {Post : Option Value → Hp → Prop} (v : Int32) (K : Post (some (.int (if v < 97 then 0 else if 122 < v then 0 else 1))) h) : Sp g mX5_isLetter [.int v] h Post := by
  show Go g mX5_isLetter 0 [_] [] _ _ _
  refine ok_iload_n dX5_isLetter_0 rfl rfl ?_
  refine ok_bipush (v := 97) dX5_isLetter_1 (by decide) ?_
  refine ok_bipush (v := 122) dX5_isLetter_3 (by decide) ?_
  refine ok_callS (M' := mX5_in) (b' := (0, 0)) (As := [_, _, _]) dX5_isLetter_5 iX5_in w_846 rfl (Nat.le_of_ble_eq_true rfl) ⟨Nat.le_of_ble_eq_true rfl, Nat.le_of_ble_eq_true rfl⟩ (Nat.le_of_ble_eq_true rfl) rfl rfl ?_
  refine sp_X5_in _ _ _ ?_
  refine ok_ireturn dX5_isLetter_8 rfl (nar_b (b01_in _ _ _)) ?_
  exact K
theorem sp_X5_isDigit {g : GG} {h : Hp} {Post : Option Value → Hp → Prop} (v : Int32) (K : Post (some (.int (if v < 48 then 0 else if 57 < v then 0 else 1))) h) : Sp g mX5_isDigit [.int v] h Post := by
  show Go g mX5_isDigit 0 [_] [] _ _ _
  refine ok_iload_n dX5_isDigit_0 rfl rfl ?_
  refine ok_bipush (v := 48) dX5_isDigit_1 (by decide) ?_
  refine ok_bipush (v := 57) dX5_isDigit_3 (by decide) ?_
  refine ok_callS (M' := mX5_in) (b' := (0, 0)) (As := [_, _, _]) dX5_isDigit_5 iX5_in w_846 rfl (Nat.le_of_ble_eq_true rfl) ⟨Nat.le_of_ble_eq_true rfl, Nat.le_of_ble_eq_true rfl⟩ (Nat.le_of_ble_eq_true rfl) rfl rfl ?_
  refine sp_X5_in _ _ _ ?_
  refine ok_ireturn dX5_isDigit_8 rfl (nar_b (b01_in _ _ _)) ?_
  exact K
theorem sp_X5_cut {g : GG} {h : Hp} {Post : Option Value → Hp → Prop} (v u : Int32) (K : Post (some (.int (cut v u))) h) : Sp g mX5_cut [.int v, .int u] h Post := by
  show Go g mX5_cut 0 [_, _] [] _ _ _
  unfold cut at K
  refine ok_iload_n dX5_cut_0 rfl rfl ?_
  refine ok_iload_n dX5_cut_1 rfl rfl ?_
  refine ok_icmp_ge (tgt := 9) dX5_cut_2 (by decide) (fun c_2 => ?_) (fun c_2 => ?_)
  · refine ok_iload_n dX5_cut_9 rfl rfl ?_
    refine ok_ireturn dX5_cut_10 rfl rfl ?_
    first | (rw [if_pos (i_nle.mp c_2)] at K; exact K) | (rw [if_neg (i_nlt.mpr c_2)] at K; exact K)
  · refine ok_iload_n dX5_cut_5 rfl rfl ?_
    refine ok_goto (tgt := 10) dX5_cut_6 (by decide) ?_
    refine ok_ireturn dX5_cut_10 rfl rfl ?_
    first | (rw [if_pos (i_nle.mp c_2)] at K; exact K) | (rw [if_neg (i_nlt.mpr c_2)] at K; exact K)
theorem sp_X5_thinks {g : GG} {h : Hp} {Post : Option Value → Hp → Prop} (hv : Inv h) {n : Nat} {r : Nat → Int32} (R : RM 50 h n r) {p : Nat} (hp : p < n) (c : Int32) (K : Post (some (.int (w_thinks r p c))) h) : Sp g mX5_thinks [.ref 49, .int (nI p), .int c] h Post := by
  show Go g mX5_thinks 0 [_, _, _] [] _ _ _
  unfold w_thinks at K
  refine ok_aload_n dX5_thinks_0 rfl rfl ?_
  refine ok_getR dX5_thinks_1 f_X5_7 (by first | exact is_lit hv (by decide) rfl | exact is_sq hv hq | exact is_row hv hq | exact is_pn hv hq (by assumption) | assumption) rfl (by first | exact rf hv rfl | exact rf_row hv hq | assumption) ?_
  refine ok_iconst (v := 3) dX5_thinks_4 (by decide) ?_
  refine ok_iaload dX5_thinks_5 (is_lit hv (by decide) rfl) (by unfold vp_in; decide) ?_
  rw [show hI h 50 (Int32.toNatClampNeg 3) = r 3 from R.2.2.1 3 (by decide)]
  refine ok_if_ne (tgt := 16) dX5_thinks_6 (by decide) (fun c_6 => ?_) (fun c_6 => ?_)
  · refine ok_iload_n dX5_thinks_16 rfl rfl ?_
    refine ok_aload_n dX5_thinks_17 rfl rfl ?_
    refine ok_getR dX5_thinks_18 f_X5_7 (by first | exact is_lit hv (by decide) rfl | exact is_sq hv hq | exact is_row hv hq | exact is_pn hv hq (by assumption) | assumption) rfl (by first | exact rf hv rfl | exact rf_row hv hq | assumption) ?_
    refine ok_iconst (v := 4) dX5_thinks_21 (by decide) ?_
    refine ok_iaload dX5_thinks_22 (is_lit hv (by decide) rfl) (by unfold vp_in; decide) ?_
    rw [show hI h 50 (Int32.toNatClampNeg 4) = r 4 from R.2.2.1 4 (by decide)]
    refine ok_iadd dX5_thinks_23 ?_
    refine ok_if_le (tgt := 38) dX5_thinks_24 (by decide) (fun c_24 => ?_) (fun c_24 => ?_)
    · refine ok_iconst (v := 0) dX5_thinks_38 (by decide) ?_
      refine ok_ireturn dX5_thinks_39 rfl rfl ?_
      first | (rw [if_pos c_6] at K; exact K) | (rw [if_neg c_6, if_pos c_24] at K; exact K) | (rw [if_neg c_6, if_neg c_24] at K; exact K)
    · refine ok_iload_n dX5_thinks_27 rfl rfl ?_
      refine ok_aload_n dX5_thinks_28 rfl rfl ?_
      refine ok_getR dX5_thinks_29 f_X5_7 (by first | exact is_lit hv (by decide) rfl | exact is_sq hv hq | exact is_row hv hq | exact is_pn hv hq (by assumption) | assumption) rfl (by first | exact rf hv rfl | exact rf_row hv hq | assumption) ?_
      refine ok_iconst (v := 4) dX5_thinks_32 (by decide) ?_
      refine ok_iaload dX5_thinks_33 (is_lit hv (by decide) rfl) (by unfold vp_in; decide) ?_
      rw [show hI h 50 (Int32.toNatClampNeg 4) = r 4 from R.2.2.1 4 (by decide)]
      refine ok_iadd dX5_thinks_34 ?_
      refine ok_goto (tgt := 39) dX5_thinks_35 (by decide) ?_
      refine ok_ireturn dX5_thinks_39 rfl rfl ?_
      first | (rw [if_pos c_6] at K; exact K) | (rw [if_neg c_6, if_pos c_24] at K; exact K) | (rw [if_neg c_6, if_neg c_24] at K; exact K)
  · refine ok_aload_n dX5_thinks_9 rfl rfl ?_
    refine ok_iload_n dX5_thinks_10 rfl rfl ?_
    refine ok_iconst (v := 3) dX5_thinks_11 (by decide) ?_
    refine ok_callV (M' := mX5_its) (b' := (0, 0)) (As := [_, _]) (cx := 5) dX5_thinks_12 iX5_its w_871 (by decide) rfl (by first | exact is_lit hv (by decide) rfl | exact is_sq hv hq | exact is_row hv hq | exact is_pn hv hq (by assumption) | assumption) rfl (Nat.le_of_ble_eq_true rfl) ⟨Nat.le_of_ble_eq_true rfl, Nat.le_of_ble_eq_true rfl⟩ (Nat.le_of_ble_eq_true rfl) rfl rfl ?_
    refine sp_X5_its hv R (f := 3) hp (by decide) ?_
    refine ok_ireturn dX5_thinks_15 rfl rfl ?_
    first | (rw [if_pos c_6] at K; exact K) | (rw [if_neg c_6, if_pos c_24] at K; exact K) | (rw [if_neg c_6, if_neg c_24] at K; exact K)
theorem sp_X5_shortAs {g : GG} {h : Hp} {Post : Option Value → Hp → Prop} (hv : Inv h) {n : Nat} {r : Nat → Int32} (R : RM 50 h n r) {p : Nat} (hp : p < n) (pl c : Int32) (K : Post (some (.int (w_short r p pl c))) h) : Sp g mX5_shortAs [.ref 49, .int (nI p), .int pl, .int c] h Post := by
  show Go g mX5_shortAs 0 [_, _, _, _, _] [] _ _ _
  unfold w_short at K
  refine ok_iload_n dX5_shortAs_0 rfl rfl ?_
  refine ok_iconst (v := 1) dX5_shortAs_1 (by decide) ?_
  refine ok_iadd dX5_shortAs_2 ?_
  refine ok_aload_n dX5_shortAs_3 rfl rfl ?_
  refine ok_iload_n dX5_shortAs_4 rfl rfl ?_
  refine ok_iload_n dX5_shortAs_5 rfl rfl ?_
  refine ok_callV (M' := mX5_thinks) (b' := (0, 0)) (As := [_, _]) (cx := 5) dX5_shortAs_6 iX5_thinks w_875 (by decide) rfl (by first | exact is_lit hv (by decide) rfl | exact is_sq hv hq | exact is_row hv hq | exact is_pn hv hq (by assumption) | assumption) rfl (Nat.le_of_ble_eq_true rfl) ⟨Nat.le_of_ble_eq_true rfl, Nat.le_of_ble_eq_true rfl⟩ (Nat.le_of_ble_eq_true rfl) rfl rfl ?_
  refine sp_X5_thinks hv R hp c ?_
  refine ok_isub dX5_shortAs_9 ?_
  refine ok_istore (lo' := [_, _, _, _, _]) dX5_shortAs_10 (Nat.le_of_ble_eq_true rfl) rfl rfl ?_
  refine ok_iload dX5_shortAs_12 rfl ?_
  refine ok_if_le (tgt := 22) dX5_shortAs_14 (by decide) (fun c_14 => ?_) (fun c_14 => ?_)
  · refine ok_iconst (v := 0) dX5_shortAs_22 (by decide) ?_
    refine ok_ireturn dX5_shortAs_23 rfl rfl ?_
    first | (rw [if_pos c_14] at K; exact K) | (rw [if_neg c_14] at K; exact K)
  · refine ok_iload dX5_shortAs_17 rfl ?_
    refine ok_goto (tgt := 23) dX5_shortAs_19 (by decide) ?_
    refine ok_ireturn dX5_shortAs_23 rfl rfl ?_
    first | (rw [if_pos c_14] at K; exact K) | (rw [if_neg c_14] at K; exact K)
theorem raw0 {r : Nat → Int32} {p : Nat} {c : Int32} (e : ro r p 0 = 0) : w_raw r p c = if w_short r p (nI p) c = 1 then (if ro r p 2 ≤ 0 then 0 else 1) else 0 := by unfold w_raw; rw [if_neg (by rw [e]; decide), if_neg (by rw [e]; decide), if_neg (by rw [e]; decide), if_neg (by rw [e]; decide), if_neg (by rw [e]; decide)]
theorem raw1 {r : Nat → Int32} {p : Nat} {c : Int32} (e : ro r p 0 = 1) : w_raw r p c = 0 := by unfold w_raw; rw [if_pos e]
theorem raw2 {r : Nat → Int32} {p : Nat} {c : Int32} (e : ro r p 0 = 2) : w_raw r p c = 1 := by unfold w_raw; rw [if_neg (by rw [e]; decide), if_pos e]
theorem raw3 {r : Nat → Int32} {p : Nat} {c : Int32} (e : ro r p 0 = 3) : w_raw r p c = if ro r p 2 < w_short r p (nI p) c then 0 else w_short r p (nI p) c := by unfold w_raw; rw [if_neg (by rw [e]; decide), if_neg (by rw [e]; decide), if_pos e]
theorem raw4 {r : Nat → Int32} {p : Nat} {c : Int32} (e : ro r p 0 = 4) : w_raw r p c = if c ≤ 0 then 0 else -1 := by unfold w_raw; rw [if_neg (by rw [e]; decide), if_neg (by rw [e]; decide), if_neg (by rw [e]; decide), if_pos e]
theorem raw5 {r : Nat → Int32} {p : Nat} {c : Int32} (e : ro r p 0 = 5) : w_raw r p c = w_short r p (r 0 - 1) c := by unfold w_raw; rw [if_neg (by rw [e]; decide), if_neg (by rw [e]; decide), if_neg (by rw [e]; decide), if_neg (by rw [e]; decide), if_pos e]
theorem sp_X5_would {g : GG} {h : Hp} {Post : Option Value → Hp → Prop} (hv : Inv h) {n : Nat} {r : Nat → Int32} (R : RM 50 h n r) (G : RG r n) {p : Nat} (hp : p < n) (c : Int32) (K : Post (some (.int (w_would r p c))) h) : Sp g mX5_would [.ref 49, .int (nI p), .int c] h Post := by
  show Go g mX5_would 0 [_, _, _, _, _] [] _ _ _
  refine ok_aload_n dX5_would_0 rfl rfl ?_
  refine ok_iload_n dX5_would_1 rfl rfl ?_
  refine ok_iload_n dX5_would_2 rfl rfl ?_
  refine ok_iload_n dX5_would_3 rfl rfl ?_
  refine ok_callV (M' := mX5_shortAs) (b' := (0, 0)) (As := [_, _, _]) (cx := 5) dX5_would_4 iX5_shortAs w_879 (by decide) rfl (by first | exact is_lit hv (by decide) rfl | exact is_sq hv hq | exact is_row hv hq | exact is_pn hv hq (by assumption) | assumption) rfl (Nat.le_of_ble_eq_true rfl) ⟨Nat.le_of_ble_eq_true rfl, Nat.le_of_ble_eq_true rfl⟩ (Nat.le_of_ble_eq_true rfl) rfl rfl ?_
  refine sp_X5_shortAs hv R hp _ c ?_
  refine ok_istore_n (lo' := [_, _, _, _, _]) dX5_would_7 rfl (Nat.le_of_ble_eq_true rfl) rfl rfl ?_
  refine ok_iconst (v := 0) dX5_would_8 (by decide) ?_
  refine ok_istore (lo' := [_, _, _, _, _]) dX5_would_9 (Nat.le_of_ble_eq_true rfl) rfl rfl ?_
  refine ok_aload_n dX5_would_11 rfl rfl ?_
  refine ok_iload_n dX5_would_12 rfl rfl ?_
  refine ok_iconst (v := 0) dX5_would_13 (by decide) ?_
  refine ok_callV (M' := mX5_its) (b' := (0, 0)) (As := [_, _]) (cx := 5) dX5_would_14 iX5_its w_871 (by decide) rfl (by first | exact is_lit hv (by decide) rfl | exact is_sq hv hq | exact is_row hv hq | exact is_pn hv hq (by assumption) | assumption) rfl (Nat.le_of_ble_eq_true rfl) ⟨Nat.le_of_ble_eq_true rfl, Nat.le_of_ble_eq_true rfl⟩ (Nat.le_of_ble_eq_true rfl) rfl rfl ?_
  refine sp_X5_its hv R (f := 0) hp (by decide) ?_
  rcases G.kd p hp with ek | ek | ek | ek | ek | ek
  · rw [ek]
    refine ok_tableOut (tgt := 114) dX5_would_17 (by decide) (by decide) ?_
    refine ok_iload_n dX5_would_114 rfl rfl ?_
    refine ok_iconst (v := 1) dX5_would_115 (by decide) ?_
    refine ok_icmp_ne (tgt := 132) dX5_would_116 (by decide) (fun c_116 => ?_) (fun c_116 => ?_)
    · refine ok_iconst (v := 0) dX5_would_132 (by decide) ?_
      refine ok_istore (lo' := [_, _, _, _, _]) dX5_would_133 (Nat.le_of_ble_eq_true rfl) rfl rfl ?_
      refine ok_iload dX5_would_135 rfl ?_
      refine ok_aload_n dX5_would_137 rfl rfl ?_
      refine ok_iload_n dX5_would_138 rfl rfl ?_
      refine ok_iconst (v := 1) dX5_would_139 (by decide) ?_
      refine ok_callV (M' := mX5_its) (b' := (0, 0)) (As := [_, _]) (cx := 5) dX5_would_140 iX5_its w_871 (by decide) rfl (by first | exact is_lit hv (by decide) rfl | exact is_sq hv hq | exact is_row hv hq | exact is_pn hv hq (by assumption) | assumption) rfl (Nat.le_of_ble_eq_true rfl) ⟨Nat.le_of_ble_eq_true rfl, Nat.le_of_ble_eq_true rfl⟩ (Nat.le_of_ble_eq_true rfl) rfl rfl ?_
      refine sp_X5_its hv R (f := 1) hp (by decide) ?_
      refine ok_callS (M' := mX5_cut) (b' := (0, 0)) (As := [_, _]) dX5_would_143 iX5_cut w_887 rfl (Nat.le_of_ble_eq_true rfl) ⟨Nat.le_of_ble_eq_true rfl, Nat.le_of_ble_eq_true rfl⟩ (Nat.le_of_ble_eq_true rfl) rfl rfl ?_
      refine sp_X5_cut _ _ ?_
      refine ok_ireturn dX5_would_146 rfl rfl ?_
      unfold w_would at K
      first
        | (rw [raw1 ek] at K; exact K)
        | (rw [raw2 ek] at K; exact K)
        | (rw [raw3 ek, if_pos c_68] at K; exact K)
        | (rw [raw3 ek, if_neg c_68] at K; exact K)
        | (rw [raw4 ek, if_pos c_82] at K; exact K)
        | (rw [raw4 ek, if_neg c_82] at K; exact K)
        | (rw [raw5 ek] at K; exact K)
        | (rw [raw0 ek, if_pos c_116, if_pos c_125] at K; exact K)
        | (rw [raw0 ek, if_pos c_116, if_neg c_125] at K; exact K)
        | (rw [raw0 ek, if_neg c_116] at K; exact K)
    · refine ok_aload_n dX5_would_119 rfl rfl ?_
      refine ok_iload_n dX5_would_120 rfl rfl ?_
      refine ok_iconst (v := 2) dX5_would_121 (by decide) ?_
      refine ok_callV (M' := mX5_its) (b' := (0, 0)) (As := [_, _]) (cx := 5) dX5_would_122 iX5_its w_871 (by decide) rfl (by first | exact is_lit hv (by decide) rfl | exact is_sq hv hq | exact is_row hv hq | exact is_pn hv hq (by assumption) | assumption) rfl (Nat.le_of_ble_eq_true rfl) ⟨Nat.le_of_ble_eq_true rfl, Nat.le_of_ble_eq_true rfl⟩ (Nat.le_of_ble_eq_true rfl) rfl rfl ?_
      refine sp_X5_its hv R (f := 2) hp (by decide) ?_
      refine ok_if_le (tgt := 132) dX5_would_125 (by decide) (fun c_125 => ?_) (fun c_125 => ?_)
      · refine ok_iconst (v := 0) dX5_would_132 (by decide) ?_
        refine ok_istore (lo' := [_, _, _, _, _]) dX5_would_133 (Nat.le_of_ble_eq_true rfl) rfl rfl ?_
        refine ok_iload dX5_would_135 rfl ?_
        refine ok_aload_n dX5_would_137 rfl rfl ?_
        refine ok_iload_n dX5_would_138 rfl rfl ?_
        refine ok_iconst (v := 1) dX5_would_139 (by decide) ?_
        refine ok_callV (M' := mX5_its) (b' := (0, 0)) (As := [_, _]) (cx := 5) dX5_would_140 iX5_its w_871 (by decide) rfl (by first | exact is_lit hv (by decide) rfl | exact is_sq hv hq | exact is_row hv hq | exact is_pn hv hq (by assumption) | assumption) rfl (Nat.le_of_ble_eq_true rfl) ⟨Nat.le_of_ble_eq_true rfl, Nat.le_of_ble_eq_true rfl⟩ (Nat.le_of_ble_eq_true rfl) rfl rfl ?_
        refine sp_X5_its hv R (f := 1) hp (by decide) ?_
        refine ok_callS (M' := mX5_cut) (b' := (0, 0)) (As := [_, _]) dX5_would_143 iX5_cut w_887 rfl (Nat.le_of_ble_eq_true rfl) ⟨Nat.le_of_ble_eq_true rfl, Nat.le_of_ble_eq_true rfl⟩ (Nat.le_of_ble_eq_true rfl) rfl rfl ?_
        refine sp_X5_cut _ _ ?_
        refine ok_ireturn dX5_would_146 rfl rfl ?_
        unfold w_would at K
        first
          | (rw [raw1 ek] at K; exact K)
          | (rw [raw2 ek] at K; exact K)
          | (rw [raw3 ek, if_pos c_68] at K; exact K)
          | (rw [raw3 ek, if_neg c_68] at K; exact K)
          | (rw [raw4 ek, if_pos c_82] at K; exact K)
          | (rw [raw4 ek, if_neg c_82] at K; exact K)
          | (rw [raw5 ek] at K; exact K)
          | (rw [raw0 ek, if_pos c_116, if_pos c_125] at K; exact K)
          | (rw [raw0 ek, if_pos c_116, if_neg c_125] at K; exact K)
          | (rw [raw0 ek, if_neg c_116] at K; exact K)
      · refine ok_iconst (v := 1) dX5_would_128 (by decide) ?_
        refine ok_goto (tgt := 133) dX5_would_129 (by decide) ?_
        refine ok_istore (lo' := [_, _, _, _, _]) dX5_would_133 (Nat.le_of_ble_eq_true rfl) rfl rfl ?_
        refine ok_iload dX5_would_135 rfl ?_
        refine ok_aload_n dX5_would_137 rfl rfl ?_
        refine ok_iload_n dX5_would_138 rfl rfl ?_
        refine ok_iconst (v := 1) dX5_would_139 (by decide) ?_
        refine ok_callV (M' := mX5_its) (b' := (0, 0)) (As := [_, _]) (cx := 5) dX5_would_140 iX5_its w_871 (by decide) rfl (by first | exact is_lit hv (by decide) rfl | exact is_sq hv hq | exact is_row hv hq | exact is_pn hv hq (by assumption) | assumption) rfl (Nat.le_of_ble_eq_true rfl) ⟨Nat.le_of_ble_eq_true rfl, Nat.le_of_ble_eq_true rfl⟩ (Nat.le_of_ble_eq_true rfl) rfl rfl ?_
        refine sp_X5_its hv R (f := 1) hp (by decide) ?_
        refine ok_callS (M' := mX5_cut) (b' := (0, 0)) (As := [_, _]) dX5_would_143 iX5_cut w_887 rfl (Nat.le_of_ble_eq_true rfl) ⟨Nat.le_of_ble_eq_true rfl, Nat.le_of_ble_eq_true rfl⟩ (Nat.le_of_ble_eq_true rfl) rfl rfl ?_
        refine sp_X5_cut _ _ ?_
        refine ok_ireturn dX5_would_146 rfl rfl ?_
        unfold w_would at K
        first
          | (rw [raw1 ek] at K; exact K)
          | (rw [raw2 ek] at K; exact K)
          | (rw [raw3 ek, if_pos c_68] at K; exact K)
          | (rw [raw3 ek, if_neg c_68] at K; exact K)
          | (rw [raw4 ek, if_pos c_82] at K; exact K)
          | (rw [raw4 ek, if_neg c_82] at K; exact K)
          | (rw [raw5 ek] at K; exact K)
          | (rw [raw0 ek, if_pos c_116, if_pos c_125] at K; exact K)
          | (rw [raw0 ek, if_pos c_116, if_neg c_125] at K; exact K)
          | (rw [raw0 ek, if_neg c_116] at K; exact K)
  · rw [ek]
    refine ok_tableIn (tgt := 52) (off := 35) dX5_would_17 (by decide) (by decide) (by decide) (by decide) ?_
    refine ok_goto (tgt := 135) dX5_would_52 (by decide) ?_
    refine ok_iload dX5_would_135 rfl ?_
    refine ok_aload_n dX5_would_137 rfl rfl ?_
    refine ok_iload_n dX5_would_138 rfl rfl ?_
    refine ok_iconst (v := 1) dX5_would_139 (by decide) ?_
    refine ok_callV (M' := mX5_its) (b' := (0, 0)) (As := [_, _]) (cx := 5) dX5_would_140 iX5_its w_871 (by decide) rfl (by first | exact is_lit hv (by decide) rfl | exact is_sq hv hq | exact is_row hv hq | exact is_pn hv hq (by assumption) | assumption) rfl (Nat.le_of_ble_eq_true rfl) ⟨Nat.le_of_ble_eq_true rfl, Nat.le_of_ble_eq_true rfl⟩ (Nat.le_of_ble_eq_true rfl) rfl rfl ?_
    refine sp_X5_its hv R (f := 1) hp (by decide) ?_
    refine ok_callS (M' := mX5_cut) (b' := (0, 0)) (As := [_, _]) dX5_would_143 iX5_cut w_887 rfl (Nat.le_of_ble_eq_true rfl) ⟨Nat.le_of_ble_eq_true rfl, Nat.le_of_ble_eq_true rfl⟩ (Nat.le_of_ble_eq_true rfl) rfl rfl ?_
    refine sp_X5_cut _ _ ?_
    refine ok_ireturn dX5_would_146 rfl rfl ?_
    unfold w_would at K
    first
      | (rw [raw1 ek] at K; exact K)
      | (rw [raw2 ek] at K; exact K)
      | (rw [raw3 ek, if_pos c_68] at K; exact K)
      | (rw [raw3 ek, if_neg c_68] at K; exact K)
      | (rw [raw4 ek, if_pos c_82] at K; exact K)
      | (rw [raw4 ek, if_neg c_82] at K; exact K)
      | (rw [raw5 ek] at K; exact K)
      | (rw [raw0 ek, if_pos c_116, if_pos c_125] at K; exact K)
      | (rw [raw0 ek, if_pos c_116, if_neg c_125] at K; exact K)
      | (rw [raw0 ek, if_neg c_116] at K; exact K)
  · rw [ek]
    refine ok_tableIn (tgt := 55) (off := 38) dX5_would_17 (by decide) (by decide) (by decide) (by decide) ?_
    refine ok_iconst (v := 1) dX5_would_55 (by decide) ?_
    refine ok_istore (lo' := [_, _, _, _, _]) dX5_would_56 (Nat.le_of_ble_eq_true rfl) rfl rfl ?_
    refine ok_goto (tgt := 135) dX5_would_58 (by decide) ?_
    refine ok_iload dX5_would_135 rfl ?_
    refine ok_aload_n dX5_would_137 rfl rfl ?_
    refine ok_iload_n dX5_would_138 rfl rfl ?_
    refine ok_iconst (v := 1) dX5_would_139 (by decide) ?_
    refine ok_callV (M' := mX5_its) (b' := (0, 0)) (As := [_, _]) (cx := 5) dX5_would_140 iX5_its w_871 (by decide) rfl (by first | exact is_lit hv (by decide) rfl | exact is_sq hv hq | exact is_row hv hq | exact is_pn hv hq (by assumption) | assumption) rfl (Nat.le_of_ble_eq_true rfl) ⟨Nat.le_of_ble_eq_true rfl, Nat.le_of_ble_eq_true rfl⟩ (Nat.le_of_ble_eq_true rfl) rfl rfl ?_
    refine sp_X5_its hv R (f := 1) hp (by decide) ?_
    refine ok_callS (M' := mX5_cut) (b' := (0, 0)) (As := [_, _]) dX5_would_143 iX5_cut w_887 rfl (Nat.le_of_ble_eq_true rfl) ⟨Nat.le_of_ble_eq_true rfl, Nat.le_of_ble_eq_true rfl⟩ (Nat.le_of_ble_eq_true rfl) rfl rfl ?_
    refine sp_X5_cut _ _ ?_
    refine ok_ireturn dX5_would_146 rfl rfl ?_
    unfold w_would at K
    first
      | (rw [raw1 ek] at K; exact K)
      | (rw [raw2 ek] at K; exact K)
      | (rw [raw3 ek, if_pos c_68] at K; exact K)
      | (rw [raw3 ek, if_neg c_68] at K; exact K)
      | (rw [raw4 ek, if_pos c_82] at K; exact K)
      | (rw [raw4 ek, if_neg c_82] at K; exact K)
      | (rw [raw5 ek] at K; exact K)
      | (rw [raw0 ek, if_pos c_116, if_pos c_125] at K; exact K)
      | (rw [raw0 ek, if_pos c_116, if_neg c_125] at K; exact K)
      | (rw [raw0 ek, if_neg c_116] at K; exact K)
  · rw [ek]
    refine ok_tableIn (tgt := 61) (off := 44) dX5_would_17 (by decide) (by decide) (by decide) (by decide) ?_
    refine ok_iload_n dX5_would_61 rfl rfl ?_
    refine ok_aload_n dX5_would_62 rfl rfl ?_
    refine ok_iload_n dX5_would_63 rfl rfl ?_
    refine ok_iconst (v := 2) dX5_would_64 (by decide) ?_
    refine ok_callV (M' := mX5_its) (b' := (0, 0)) (As := [_, _]) (cx := 5) dX5_would_65 iX5_its w_871 (by decide) rfl (by first | exact is_lit hv (by decide) rfl | exact is_sq hv hq | exact is_row hv hq | exact is_pn hv hq (by assumption) | assumption) rfl (Nat.le_of_ble_eq_true rfl) ⟨Nat.le_of_ble_eq_true rfl, Nat.le_of_ble_eq_true rfl⟩ (Nat.le_of_ble_eq_true rfl) rfl rfl ?_
    refine sp_X5_its hv R (f := 2) hp (by decide) ?_
    refine ok_icmp_gt (tgt := 75) dX5_would_68 (by decide) (fun c_68 => ?_) (fun c_68 => ?_)
    · refine ok_iconst (v := 0) dX5_would_75 (by decide) ?_
      refine ok_istore (lo' := [_, _, _, _, _]) dX5_would_76 (Nat.le_of_ble_eq_true rfl) rfl rfl ?_
      refine ok_goto (tgt := 135) dX5_would_78 (by decide) ?_
      refine ok_iload dX5_would_135 rfl ?_
      refine ok_aload_n dX5_would_137 rfl rfl ?_
      refine ok_iload_n dX5_would_138 rfl rfl ?_
      refine ok_iconst (v := 1) dX5_would_139 (by decide) ?_
      refine ok_callV (M' := mX5_its) (b' := (0, 0)) (As := [_, _]) (cx := 5) dX5_would_140 iX5_its w_871 (by decide) rfl (by first | exact is_lit hv (by decide) rfl | exact is_sq hv hq | exact is_row hv hq | exact is_pn hv hq (by assumption) | assumption) rfl (Nat.le_of_ble_eq_true rfl) ⟨Nat.le_of_ble_eq_true rfl, Nat.le_of_ble_eq_true rfl⟩ (Nat.le_of_ble_eq_true rfl) rfl rfl ?_
      refine sp_X5_its hv R (f := 1) hp (by decide) ?_
      refine ok_callS (M' := mX5_cut) (b' := (0, 0)) (As := [_, _]) dX5_would_143 iX5_cut w_887 rfl (Nat.le_of_ble_eq_true rfl) ⟨Nat.le_of_ble_eq_true rfl, Nat.le_of_ble_eq_true rfl⟩ (Nat.le_of_ble_eq_true rfl) rfl rfl ?_
      refine sp_X5_cut _ _ ?_
      refine ok_ireturn dX5_would_146 rfl rfl ?_
      unfold w_would at K
      first
        | (rw [raw1 ek] at K; exact K)
        | (rw [raw2 ek] at K; exact K)
        | (rw [raw3 ek, if_pos c_68] at K; exact K)
        | (rw [raw3 ek, if_neg c_68] at K; exact K)
        | (rw [raw4 ek, if_pos c_82] at K; exact K)
        | (rw [raw4 ek, if_neg c_82] at K; exact K)
        | (rw [raw5 ek] at K; exact K)
        | (rw [raw0 ek, if_pos c_116, if_pos c_125] at K; exact K)
        | (rw [raw0 ek, if_pos c_116, if_neg c_125] at K; exact K)
        | (rw [raw0 ek, if_neg c_116] at K; exact K)
    · refine ok_iload_n dX5_would_71 rfl rfl ?_
      refine ok_goto (tgt := 76) dX5_would_72 (by decide) ?_
      refine ok_istore (lo' := [_, _, _, _, _]) dX5_would_76 (Nat.le_of_ble_eq_true rfl) rfl rfl ?_
      refine ok_goto (tgt := 135) dX5_would_78 (by decide) ?_
      refine ok_iload dX5_would_135 rfl ?_
      refine ok_aload_n dX5_would_137 rfl rfl ?_
      refine ok_iload_n dX5_would_138 rfl rfl ?_
      refine ok_iconst (v := 1) dX5_would_139 (by decide) ?_
      refine ok_callV (M' := mX5_its) (b' := (0, 0)) (As := [_, _]) (cx := 5) dX5_would_140 iX5_its w_871 (by decide) rfl (by first | exact is_lit hv (by decide) rfl | exact is_sq hv hq | exact is_row hv hq | exact is_pn hv hq (by assumption) | assumption) rfl (Nat.le_of_ble_eq_true rfl) ⟨Nat.le_of_ble_eq_true rfl, Nat.le_of_ble_eq_true rfl⟩ (Nat.le_of_ble_eq_true rfl) rfl rfl ?_
      refine sp_X5_its hv R (f := 1) hp (by decide) ?_
      refine ok_callS (M' := mX5_cut) (b' := (0, 0)) (As := [_, _]) dX5_would_143 iX5_cut w_887 rfl (Nat.le_of_ble_eq_true rfl) ⟨Nat.le_of_ble_eq_true rfl, Nat.le_of_ble_eq_true rfl⟩ (Nat.le_of_ble_eq_true rfl) rfl rfl ?_
      refine sp_X5_cut _ _ ?_
      refine ok_ireturn dX5_would_146 rfl rfl ?_
      unfold w_would at K
      first
        | (rw [raw1 ek] at K; exact K)
        | (rw [raw2 ek] at K; exact K)
        | (rw [raw3 ek, if_pos c_68] at K; exact K)
        | (rw [raw3 ek, if_neg c_68] at K; exact K)
        | (rw [raw4 ek, if_pos c_82] at K; exact K)
        | (rw [raw4 ek, if_neg c_82] at K; exact K)
        | (rw [raw5 ek] at K; exact K)
        | (rw [raw0 ek, if_pos c_116, if_pos c_125] at K; exact K)
        | (rw [raw0 ek, if_pos c_116, if_neg c_125] at K; exact K)
        | (rw [raw0 ek, if_neg c_116] at K; exact K)
  · rw [ek]
    refine ok_tableIn (tgt := 81) (off := 64) dX5_would_17 (by decide) (by decide) (by decide) (by decide) ?_
    refine ok_iload_n dX5_would_81 rfl rfl ?_
    refine ok_if_le (tgt := 89) dX5_would_82 (by decide) (fun c_82 => ?_) (fun c_82 => ?_)
    · refine ok_iconst (v := 0) dX5_would_89 (by decide) ?_
      refine ok_istore (lo' := [_, _, _, _, _]) dX5_would_90 (Nat.le_of_ble_eq_true rfl) rfl rfl ?_
      refine ok_goto (tgt := 135) dX5_would_92 (by decide) ?_
      refine ok_iload dX5_would_135 rfl ?_
      refine ok_aload_n dX5_would_137 rfl rfl ?_
      refine ok_iload_n dX5_would_138 rfl rfl ?_
      refine ok_iconst (v := 1) dX5_would_139 (by decide) ?_
      refine ok_callV (M' := mX5_its) (b' := (0, 0)) (As := [_, _]) (cx := 5) dX5_would_140 iX5_its w_871 (by decide) rfl (by first | exact is_lit hv (by decide) rfl | exact is_sq hv hq | exact is_row hv hq | exact is_pn hv hq (by assumption) | assumption) rfl (Nat.le_of_ble_eq_true rfl) ⟨Nat.le_of_ble_eq_true rfl, Nat.le_of_ble_eq_true rfl⟩ (Nat.le_of_ble_eq_true rfl) rfl rfl ?_
      refine sp_X5_its hv R (f := 1) hp (by decide) ?_
      refine ok_callS (M' := mX5_cut) (b' := (0, 0)) (As := [_, _]) dX5_would_143 iX5_cut w_887 rfl (Nat.le_of_ble_eq_true rfl) ⟨Nat.le_of_ble_eq_true rfl, Nat.le_of_ble_eq_true rfl⟩ (Nat.le_of_ble_eq_true rfl) rfl rfl ?_
      refine sp_X5_cut _ _ ?_
      refine ok_ireturn dX5_would_146 rfl rfl ?_
      unfold w_would at K
      first
        | (rw [raw1 ek] at K; exact K)
        | (rw [raw2 ek] at K; exact K)
        | (rw [raw3 ek, if_pos c_68] at K; exact K)
        | (rw [raw3 ek, if_neg c_68] at K; exact K)
        | (rw [raw4 ek, if_pos c_82] at K; exact K)
        | (rw [raw4 ek, if_neg c_82] at K; exact K)
        | (rw [raw5 ek] at K; exact K)
        | (rw [raw0 ek, if_pos c_116, if_pos c_125] at K; exact K)
        | (rw [raw0 ek, if_pos c_116, if_neg c_125] at K; exact K)
        | (rw [raw0 ek, if_neg c_116] at K; exact K)
    · refine ok_iconst (v := -1) dX5_would_85 (by decide) ?_
      refine ok_goto (tgt := 90) dX5_would_86 (by decide) ?_
      refine ok_istore (lo' := [_, _, _, _, _]) dX5_would_90 (Nat.le_of_ble_eq_true rfl) rfl rfl ?_
      refine ok_goto (tgt := 135) dX5_would_92 (by decide) ?_
      refine ok_iload dX5_would_135 rfl ?_
      refine ok_aload_n dX5_would_137 rfl rfl ?_
      refine ok_iload_n dX5_would_138 rfl rfl ?_
      refine ok_iconst (v := 1) dX5_would_139 (by decide) ?_
      refine ok_callV (M' := mX5_its) (b' := (0, 0)) (As := [_, _]) (cx := 5) dX5_would_140 iX5_its w_871 (by decide) rfl (by first | exact is_lit hv (by decide) rfl | exact is_sq hv hq | exact is_row hv hq | exact is_pn hv hq (by assumption) | assumption) rfl (Nat.le_of_ble_eq_true rfl) ⟨Nat.le_of_ble_eq_true rfl, Nat.le_of_ble_eq_true rfl⟩ (Nat.le_of_ble_eq_true rfl) rfl rfl ?_
      refine sp_X5_its hv R (f := 1) hp (by decide) ?_
      refine ok_callS (M' := mX5_cut) (b' := (0, 0)) (As := [_, _]) dX5_would_143 iX5_cut w_887 rfl (Nat.le_of_ble_eq_true rfl) ⟨Nat.le_of_ble_eq_true rfl, Nat.le_of_ble_eq_true rfl⟩ (Nat.le_of_ble_eq_true rfl) rfl rfl ?_
      refine sp_X5_cut _ _ ?_
      refine ok_ireturn dX5_would_146 rfl rfl ?_
      unfold w_would at K
      first
        | (rw [raw1 ek] at K; exact K)
        | (rw [raw2 ek] at K; exact K)
        | (rw [raw3 ek, if_pos c_68] at K; exact K)
        | (rw [raw3 ek, if_neg c_68] at K; exact K)
        | (rw [raw4 ek, if_pos c_82] at K; exact K)
        | (rw [raw4 ek, if_neg c_82] at K; exact K)
        | (rw [raw5 ek] at K; exact K)
        | (rw [raw0 ek, if_pos c_116, if_pos c_125] at K; exact K)
        | (rw [raw0 ek, if_pos c_116, if_neg c_125] at K; exact K)
        | (rw [raw0 ek, if_neg c_116] at K; exact K)
  · rw [ek]
    refine ok_tableIn (tgt := 95) (off := 78) dX5_would_17 (by decide) (by decide) (by decide) (by decide) ?_
    refine ok_aload_n dX5_would_95 rfl rfl ?_
    refine ok_iload_n dX5_would_96 rfl rfl ?_
    refine ok_aload_n dX5_would_97 rfl rfl ?_
    refine ok_getR dX5_would_98 f_X5_7 (by first | exact is_lit hv (by decide) rfl | exact is_sq hv hq | exact is_row hv hq | exact is_pn hv hq (by assumption) | assumption) rfl (by first | exact rf hv rfl | exact rf_row hv hq | assumption) ?_
    refine ok_iconst (v := 0) dX5_would_101 (by decide) ?_
    refine ok_iaload dX5_would_102 (is_lit hv (by decide) rfl) (by unfold vp_in; decide) ?_
    rw [show hI h 50 (Int32.toNatClampNeg 0) = r 0 from R.2.2.1 0 (by decide)]
    refine ok_iconst (v := 1) dX5_would_103 (by decide) ?_
    refine ok_isub dX5_would_104 ?_
    refine ok_iload_n dX5_would_105 rfl rfl ?_
    refine ok_callV (M' := mX5_shortAs) (b' := (0, 0)) (As := [_, _, _]) (cx := 5) dX5_would_106 iX5_shortAs w_879 (by decide) rfl (by first | exact is_lit hv (by decide) rfl | exact is_sq hv hq | exact is_row hv hq | exact is_pn hv hq (by assumption) | assumption) rfl (Nat.le_of_ble_eq_true rfl) ⟨Nat.le_of_ble_eq_true rfl, Nat.le_of_ble_eq_true rfl⟩ (Nat.le_of_ble_eq_true rfl) rfl rfl ?_
    refine sp_X5_shortAs hv R hp _ c ?_
    refine ok_istore (lo' := [_, _, _, _, _]) dX5_would_109 (Nat.le_of_ble_eq_true rfl) rfl rfl ?_
    refine ok_goto (tgt := 135) dX5_would_111 (by decide) ?_
    refine ok_iload dX5_would_135 rfl ?_
    refine ok_aload_n dX5_would_137 rfl rfl ?_
    refine ok_iload_n dX5_would_138 rfl rfl ?_
    refine ok_iconst (v := 1) dX5_would_139 (by decide) ?_
    refine ok_callV (M' := mX5_its) (b' := (0, 0)) (As := [_, _]) (cx := 5) dX5_would_140 iX5_its w_871 (by decide) rfl (by first | exact is_lit hv (by decide) rfl | exact is_sq hv hq | exact is_row hv hq | exact is_pn hv hq (by assumption) | assumption) rfl (Nat.le_of_ble_eq_true rfl) ⟨Nat.le_of_ble_eq_true rfl, Nat.le_of_ble_eq_true rfl⟩ (Nat.le_of_ble_eq_true rfl) rfl rfl ?_
    refine sp_X5_its hv R (f := 1) hp (by decide) ?_
    refine ok_callS (M' := mX5_cut) (b' := (0, 0)) (As := [_, _]) dX5_would_143 iX5_cut w_887 rfl (Nat.le_of_ble_eq_true rfl) ⟨Nat.le_of_ble_eq_true rfl, Nat.le_of_ble_eq_true rfl⟩ (Nat.le_of_ble_eq_true rfl) rfl rfl ?_
    refine sp_X5_cut _ _ ?_
    refine ok_ireturn dX5_would_146 rfl rfl ?_
    unfold w_would at K
    first
      | (rw [raw1 ek] at K; exact K)
      | (rw [raw2 ek] at K; exact K)
      | (rw [raw3 ek, if_pos c_68] at K; exact K)
      | (rw [raw3 ek, if_neg c_68] at K; exact K)
      | (rw [raw4 ek, if_pos c_82] at K; exact K)
      | (rw [raw4 ek, if_neg c_82] at K; exact K)
      | (rw [raw5 ek] at K; exact K)
      | (rw [raw0 ek, if_pos c_116, if_pos c_125] at K; exact K)
      | (rw [raw0 ek, if_pos c_116, if_neg c_125] at K; exact K)
      | (rw [raw0 ek, if_neg c_116] at K; exact K)
